/-! reach: the call -/
section RY
variable {E : AEn} {h h' : AHi} {hr : AHr} {n : Nat} {Q : ARs → Prop} {N : Int} {b : Int → Bn} {f a : Int}
theorem bLo_p (b : Int → Bn) (i f v x : Int) : bLo (bpt b i f v) x = bLo b x ∧ bHi (bpt b i f v) x = bHi b x := by
  have := bpt_p b i f v x
  unfold bLo bHi
  rw [this.2.2.1, this.2.2.2]
  exact ⟨rfl, rfl⟩
theorem rmk_p {b : Int → Bn} {i v x : Int} (h : x = -1 ∨ x ≠ i) (r : rmk b f x) : rmk (bpt b i f v) f x := by
  rcases h with h | h
  · exact Or.inl h
  · unfold rmk
    rw [bpt_o h]
    exact r
/-- the bones after a reach -/
def brc (b : Int → Bn) (f a u v w : Int) : Int → Bn := bpt (bpt (bpt b (up b (up b a)) f u) (up b a) f v) a f w
theorem brc_e (R : ∀ i, 0 ≤ i → i < N → BnR i (b i)) (hN : N ≤ 10) (a0 : 0 ≤ a) (a1 : a < N) (hf : 0 ≤ f ∧ f ≤ 119) {u v w : Int} (hu : bLo b (up b (up b a)) ≤ u ∧ u ≤ bHi b (up b (up b a))) (hv : bLo b (up b a) ≤ v ∧ v ≤ bHi b (up b a)) (hw : bLo b a ≤ w ∧ w ≤ bHi b a) (ra : rmk b f a) (rm : rmk b f (up b a)) (rt : rmk b f (up b (up b a))) (c : Int) : eE (brc b f a u v w) (an (brc b f a u v w) f) c a = exy b (an b f) a c u v w := by
  have r1 := up_r R (i := a) (by omega) a1
  have r2 := up_r R r1.1.1 r1.1.2.2
  have r3 := up_r R r2.1.1 r2.1.2.2
  have u1 := r1.2 a0
  have b0 : ∀ i, i = -1 → bLo b i = 0 ∧ bHi b i = 0 := fun i e => by rw [e]; exact ⟨rfl, rfl⟩
  have R1 := bpt_r R r2.1.1 r2.1.2.2 hf hu rt
  have lm := bLo_p b (up b (up b a)) f u (up b a)
  have rm1 : rmk (bpt b (up b (up b a)) f u) f (up b a) := rmk_p (by omega) rm
  have R2 := bpt_r R1 r1.1.1 r1.1.2.2 hf (by rw [lm.1, lm.2]; exact hv) rm1
  have la := bLo_p b (up b (up b a)) f u a
  have la2 := bLo_p (bpt b (up b (up b a)) f u) (up b a) f v a
  have ra2 : rmk (bpt (bpt b (up b (up b a)) f u) (up b a) f v) f a := rmk_p (by omega) (rmk_p (by omega) ra)
  have pp : ∀ x, (brc b f a u v w x).1 = (b x).1 ∧ (brc b f a u v w x).2.1 = (b x).2.1 := fun x => by
    have p1 := bpt_p b (up b (up b a)) f u x
    have p2 := bpt_p (bpt b (up b (up b a)) f u) (up b a) f v x
    have p3 := bpt_p (bpt (bpt b (up b (up b a)) f u) (up b a) f v) a f w x
    exact ⟨p3.1.trans (p2.1.trans p1.1), p3.2.1.trans (p2.2.1.trans p1.2.1)⟩
  have ax : ∀ x, 0 ≤ x → an (brc b f a u v w) f x = if x = a then w else if x = up b a then v else if x = up b (up b a) then u else an b f x := fun x x0 => by
    unfold brc
    rw [an_put R2 (by omega) a1 hf (by rw [la2.1, la2.2, la.1, la.2]; exact hw) ra2 x0, an_put R1 r1.1.1 r1.1.2.2 hf (by rw [lm.1, lm.2]; exact hv) rm1 x0, an_put R r2.1.1 r2.1.2.2 hf hu rt x0]
  rw [eE_b pp]
  refine eE_3 R hN a0 a1 (fun j j0 j1 => ?_) ⟨fun q => ?_, fun q => ?_⟩ ⟨fun q => ?_, fun q => ?_⟩ ?_
  · rw [ax j j0, if_neg (by omega), if_neg (by omega), if_neg (by omega)]
  · rw [ax _ q, if_neg (by omega), if_neg (by omega), if_pos rfl]
  · have := b0 _ q
    omega
  · rw [ax _ q, if_neg (by omega), if_pos rfl]
  · have := b0 _ q
    omega
  · rw [ax a a0, if_pos rfl]
/-- the room of the three, by the reference -/
theorem z297m (F : FH hr) (hn : 775 ≤ n) (C : Bm N b h) (a0 : 0 ≤ a) (a1 : a < N) (hf : 0 ≤ f ∧ f ≤ 119) {x y : Int} (hx : -400 ≤ x ∧ x ≤ 400) (hy : -400 ≤ y ∧ y ≤ 400)
    (k1 : rmk b f a ∧ rmk b f (up b a) ∧ rmk b f (up b (up b a)) → ∀ v9, Tm E 297 (a_bl 297 13) [.ref 704, .int (J a), .int (J f), .int (J x), .int (J y), .int (J (up b a)), .int (J (up b (up b a))), .int (J 1), .int (J 3), v9, a_mk, a_mk, a_mk, a_mk, a_mk, a_mk] [] h hr n Q)
    (k2 : ¬ (rmk b f a ∧ rmk b f (up b a) ∧ rmk b f (up b (up b a))) → Q (some (.int (J (-4))), h, hr, n)) : Sp E 297 [.ref 704, .int (J a), .int (J f), .int (J x), .int (J y)] h hr n Q := by
  have R := C.2.1
  have hN := C.1
  have r1 := up_r R (i := a) (by omega) a1
  have r2 := up_r R r1.1.1 r1.1.2.2
  have d1 := (C.2.2.2 a a0 a1).1.1
  rw [← (r1.2 a0).1] at d1
  have S := fun Q => s286 (E := E) (Q := Q) (hr := hr) hn C.2.2.1 hN (a := a) (by omega) (by omega)
  have ga : 0 ≤ a ∧ a ≤ N - 1 := by omega
  have st : Tm E 297 (a_bl 297 5) [.ref 704, .int (J a), .int (J f), .int (J x), .int (J y), .int (J (up b a)), .int (J (up b (up b a))), .int (Bz true), .int (J 0), a_mk, a_mk, a_mk, a_mk, a_mk, a_mk, a_mk] [] h hr n Q := by
    rw [k297_5]
    simp +decide (maxSteps := 4000000) (disch := omega) only [k297_0, k297_1, k297_2, k297_3, k297_4, k297_6, k297_7, k297_9, k297_10, k297_11, k297_12, k297_13, k297_14, k297_15, k297_17, k297_18, k297_19, k297_20, k297_21, k297_23, k297_24, k297_25, k297_27, k297_28, k297_29, k297_30, k297_31, k297_32, k297_33, k297_r, k297_s, F_al0, F_il1, J_ifeq, F_il2, F_il3, T_I, F_il4, J_ifne, T_ft, T_ret, T_getR, X_iald, F_is5i, F_is5r, F_is5m, F_il5, J_ifge, T_goto, F_is6i, F_is6r, F_is6m, F_is7i, F_is7r, F_is7m, F_is8i, F_is8r, F_is8m, F_il8, T_icge, J_icne, F_il6, F_is9i, F_is9r, F_is9m, F_il7, F_il9, J_iflt, F_inc8i, F_inc8r, F_inc8m, F_is10i, F_is10r, F_is10m, F_is11i, F_is11r, F_is11m, F_is12i, F_is12r, F_is12m, F_il12, T_icgt, T_iast, F_is13i, F_is13r, F_is13m, F_il13, F_is14i, F_is14r, F_is14m, F_il14, T_getI, T_sub, T_mul, T_add, F_is15i, F_is15r, F_is15m, F_il15, T_iclt, F_inc14i, F_inc14r, F_inc14m, F_inc13i, F_inc13r, F_inc13m, F_inc12i, F_inc12r, F_inc12m, F_il10, F_il11, c219, c286, c287, c288, c289, c294, c295, ↓s219, ↓s286, ↓s287, FM F, ↓reduceIte, TK, lt_run hn, le43, Int.le_refl, Int.lt_irrefl, Option.some.injEq, exists_eq_left', true_and, and_true, if_true, if_false, decide_eq_false_iff_not, decide_eq_true_eq, Nat.reduceAdd, Nat.reduceLeDiff, Nat.reduceLT, Int.reduceAdd, Int.reduceSub, Int.reduceMul, Int.reduceNeg, not_true_eq_false, not_false_eq_true]
    refine z297o F hn C hf (by omega) (by omega) a1 _ _ _ _ _ _ _ (fun q1 v9 e1 => ?_)
    rw [k297_5]
    simp +decide (maxSteps := 4000000) (disch := omega) only [k297_0, k297_1, k297_2, k297_3, k297_4, k297_6, k297_7, k297_9, k297_10, k297_11, k297_12, k297_13, k297_14, k297_15, k297_17, k297_18, k297_19, k297_20, k297_21, k297_23, k297_24, k297_25, k297_27, k297_28, k297_29, k297_30, k297_31, k297_32, k297_33, k297_r, k297_s, F_al0, F_il1, J_ifeq, F_il2, F_il3, T_I, F_il4, J_ifne, T_ft, T_ret, T_getR, X_iald, F_is5i, F_is5r, F_is5m, F_il5, J_ifge, T_goto, F_is6i, F_is6r, F_is6m, F_is7i, F_is7r, F_is7m, F_is8i, F_is8r, F_is8m, F_il8, T_icge, J_icne, F_il6, F_is9i, F_is9r, F_is9m, F_il7, F_il9, J_iflt, F_inc8i, F_inc8r, F_inc8m, F_is10i, F_is10r, F_is10m, F_is11i, F_is11r, F_is11m, F_is12i, F_is12r, F_is12m, F_il12, T_icgt, T_iast, F_is13i, F_is13r, F_is13m, F_il13, F_is14i, F_is14r, F_is14m, F_il14, T_getI, T_sub, T_mul, T_add, F_is15i, F_is15r, F_is15m, F_il15, T_iclt, F_inc14i, F_inc14r, F_inc14m, F_inc13i, F_inc13r, F_inc13m, F_inc12i, F_inc12r, F_inc12m, F_il10, F_il11, c219, c286, c287, c288, c289, c294, c295, ↓s219, ↓s286, ↓s287, FM F, ↓reduceIte, TK, lt_run hn, le43, Int.le_refl, Int.lt_irrefl, Option.some.injEq, exists_eq_left', true_and, and_true, if_true, if_false, decide_eq_false_iff_not, decide_eq_true_eq, Nat.reduceAdd, Nat.reduceLeDiff, Nat.reduceLT, Int.reduceAdd, Int.reduceSub, Int.reduceMul, Int.reduceNeg, not_true_eq_false, not_false_eq_true]
    refine z297o F hn C hf (by omega) r1.1.1 r1.1.2.2 _ _ _ _ _ _ _ (fun q2 v9 e2 => ?_)
    rw [k297_5]
    simp +decide (maxSteps := 4000000) (disch := omega) only [k297_0, k297_1, k297_2, k297_3, k297_4, k297_6, k297_7, k297_9, k297_10, k297_11, k297_12, k297_13, k297_14, k297_15, k297_17, k297_18, k297_19, k297_20, k297_21, k297_23, k297_24, k297_25, k297_27, k297_28, k297_29, k297_30, k297_31, k297_32, k297_33, k297_r, k297_s, F_al0, F_il1, J_ifeq, F_il2, F_il3, T_I, F_il4, J_ifne, T_ft, T_ret, T_getR, X_iald, F_is5i, F_is5r, F_is5m, F_il5, J_ifge, T_goto, F_is6i, F_is6r, F_is6m, F_is7i, F_is7r, F_is7m, F_is8i, F_is8r, F_is8m, F_il8, T_icge, J_icne, F_il6, F_is9i, F_is9r, F_is9m, F_il7, F_il9, J_iflt, F_inc8i, F_inc8r, F_inc8m, F_is10i, F_is10r, F_is10m, F_is11i, F_is11r, F_is11m, F_is12i, F_is12r, F_is12m, F_il12, T_icgt, T_iast, F_is13i, F_is13r, F_is13m, F_il13, F_is14i, F_is14r, F_is14m, F_il14, T_getI, T_sub, T_mul, T_add, F_is15i, F_is15r, F_is15m, F_il15, T_iclt, F_inc14i, F_inc14r, F_inc14m, F_inc13i, F_inc13r, F_inc13m, F_inc12i, F_inc12r, F_inc12m, F_il10, F_il11, c219, c286, c287, c288, c289, c294, c295, ↓s219, ↓s286, ↓s287, FM F, ↓reduceIte, TK, lt_run hn, le43, Int.le_refl, Int.lt_irrefl, Option.some.injEq, exists_eq_left', true_and, and_true, if_true, if_false, decide_eq_false_iff_not, decide_eq_true_eq, Nat.reduceAdd, Nat.reduceLeDiff, Nat.reduceLT, Int.reduceAdd, Int.reduceSub, Int.reduceMul, Int.reduceNeg, not_true_eq_false, not_false_eq_true]
    refine z297o F hn C hf (by omega) r2.1.1 r2.1.2.2 _ _ _ _ _ _ _ (fun q3 v9 e3 => ?_)
    cases q3 with
    | true =>
      have z := e3.mp rfl
      have z2 := e2.mp z.1
      have z1 := e1.mp z2.1
      have k3 := k1 ⟨z1.2, z2.2, z.2⟩ v9
      rw [k297_5]
      simp +decide (maxSteps := 4000000) (disch := omega) only [k297_0, k297_1, k297_2, k297_3, k297_4, k297_6, k297_7, k297_8, k297_9, k297_10, k297_11, k297_12, k297_14, k297_15, k297_17, k297_18, k297_19, k297_20, k297_21, k297_23, k297_24, k297_25, k297_27, k297_28, k297_29, k297_30, k297_31, k297_32, k297_33, k297_r, k297_s, F_al0, F_il1, J_ifeq, F_il2, F_il3, T_I, F_il4, J_ifne, T_ft, T_ret, T_getR, X_iald, F_is5i, F_is5r, F_is5m, F_il5, J_ifge, T_goto, F_is6i, F_is6r, F_is6m, F_is7i, F_is7r, F_is7m, F_is8i, F_is8r, F_is8m, F_il8, T_icge, J_icne, F_il6, F_is9i, F_is9r, F_is9m, F_il7, F_il9, J_iflt, F_inc8i, F_inc8r, F_inc8m, F_is10i, F_is10r, F_is10m, F_is11i, F_is11r, F_is11m, F_is12i, F_is12r, F_is12m, F_il12, T_icgt, T_iast, F_is13i, F_is13r, F_is13m, F_il13, F_is14i, F_is14r, F_is14m, F_il14, T_getI, T_sub, T_mul, T_add, F_is15i, F_is15r, F_is15m, F_il15, T_iclt, F_inc14i, F_inc14r, F_inc14m, F_inc13i, F_inc13r, F_inc13m, F_inc12i, F_inc12r, F_inc12m, F_il10, F_il11, c219, c286, c287, c288, c289, c294, c295, ↓s219, ↓s286, ↓s287, FM F, Bz_t, ↓reduceIte, TK, lt_run hn, le43, Int.le_refl, Int.lt_irrefl, Option.some.injEq, exists_eq_left', true_and, and_true, if_true, if_false, decide_eq_false_iff_not, decide_eq_true_eq, Nat.reduceAdd, Nat.reduceLeDiff, Nat.reduceLT, Int.reduceAdd, Int.reduceSub, Int.reduceMul, Int.reduceNeg, not_true_eq_false, not_false_eq_true]
      exact k3
    | false =>
      have k3 := k2 (fun z => by
        have := e3.mpr ⟨e2.mpr ⟨e1.mpr ⟨rfl, z.1⟩, z.2.1⟩, z.2.2⟩
        cases this)
      rw [k297_5]
      simp +decide (maxSteps := 4000000) (disch := omega) only [k297_0, k297_1, k297_2, k297_3, k297_4, k297_6, k297_7, k297_8, k297_9, k297_10, k297_11, k297_12, k297_14, k297_15, k297_17, k297_18, k297_19, k297_20, k297_21, k297_23, k297_24, k297_25, k297_27, k297_28, k297_29, k297_30, k297_31, k297_32, k297_33, k297_r, k297_s, F_al0, F_il1, J_ifeq, F_il2, F_il3, T_I, F_il4, J_ifne, T_ft, T_ret, T_getR, X_iald, F_is5i, F_is5r, F_is5m, F_il5, J_ifge, T_goto, F_is6i, F_is6r, F_is6m, F_is7i, F_is7r, F_is7m, F_is8i, F_is8r, F_is8m, F_il8, T_icge, J_icne, F_il6, F_is9i, F_is9r, F_is9m, F_il7, F_il9, J_iflt, F_inc8i, F_inc8r, F_inc8m, F_is10i, F_is10r, F_is10m, F_is11i, F_is11r, F_is11m, F_is12i, F_is12r, F_is12m, F_il12, T_icgt, T_iast, F_is13i, F_is13r, F_is13m, F_il13, F_is14i, F_is14r, F_is14m, F_il14, T_getI, T_sub, T_mul, T_add, F_is15i, F_is15r, F_is15m, F_il15, T_iclt, F_inc14i, F_inc14r, F_inc14m, F_inc13i, F_inc13r, F_inc13m, F_inc12i, F_inc12r, F_inc12m, F_il10, F_il11, c219, c286, c287, c288, c289, c294, c295, ↓s219, ↓s286, ↓s287, FM F, Bz_f, ↓reduceIte, TK, lt_run hn, le43, Int.le_refl, Int.lt_irrefl, Option.some.injEq, exists_eq_left', true_and, and_true, if_true, if_false, decide_eq_false_iff_not, decide_eq_true_eq, Nat.reduceAdd, Nat.reduceLeDiff, Nat.reduceLT, Int.reduceAdd, Int.reduceSub, Int.reduceMul, Int.reduceNeg, not_true_eq_false, not_false_eq_true]
      exact k3
  rw [Bz_t] at st
  rcases (show up b a = -1 ∨ 0 ≤ up b a by omega) with z | z
  · have e : up b (up b a) = -1 := by rw [z]; rfl
    rw [e] at st
    rw [z] at st d1
    simp +decide (maxSteps := 4000000) (disch := omega) only [k297_0, k297_1, k297_2, k297_3, k297_4, k297_6, k297_7, k297_8, k297_9, k297_10, k297_11, k297_12, k297_13, k297_14, k297_15, k297_17, k297_18, k297_19, k297_20, k297_21, k297_23, k297_24, k297_25, k297_27, k297_28, k297_29, k297_30, k297_31, k297_32, k297_33, k297_r, k297_s, F_al0, F_il1, J_ifeq, F_il2, F_il3, T_I, F_il4, J_ifne, T_ft, T_ret, T_getR, X_iald, F_is5i, F_is5r, F_is5m, F_il5, J_ifge, T_goto, F_is6i, F_is6r, F_is6m, F_is7i, F_is7r, F_is7m, F_is8i, F_is8r, F_is8m, F_il8, T_icge, J_icne, F_il6, F_is9i, F_is9r, F_is9m, F_il7, F_il9, J_iflt, F_inc8i, F_inc8r, F_inc8m, F_is10i, F_is10r, F_is10m, F_is11i, F_is11r, F_is11m, F_is12i, F_is12r, F_is12m, F_il12, T_icgt, T_iast, F_is13i, F_is13r, F_is13m, F_il13, F_is14i, F_is14r, F_is14m, F_il14, T_getI, T_sub, T_mul, T_add, F_is15i, F_is15r, F_is15m, F_il15, T_iclt, F_inc14i, F_inc14r, F_inc14m, F_inc13i, F_inc13r, F_inc13m, F_inc12i, F_inc12r, F_inc12m, F_il10, F_il11, c219, c286, c287, c288, c289, c294, c295, ↓s219, ↓s287, FM F, S, ga, hf, hx, hy, d1, ln_742, ↓reduceIte, TK, lt_run hn, le43, Int.le_refl, Int.lt_irrefl, Option.some.injEq, exists_eq_left', true_and, and_true, if_true, if_false, decide_eq_false_iff_not, decide_eq_true_eq, Nat.reduceAdd, Nat.reduceLeDiff, Nat.reduceLT, Int.reduceAdd, Int.reduceSub, Int.reduceMul, Int.reduceNeg, not_true_eq_false, not_false_eq_true]
    exact st
  · have d2 := (C.2.2.2 (up b a) z r1.1.2.2).1.1
    rw [← (r2.2 z).1] at d2
    simp +decide (maxSteps := 4000000) (disch := omega) only [k297_0, k297_1, k297_2, k297_3, k297_4, k297_6, k297_7, k297_8, k297_9, k297_10, k297_11, k297_12, k297_13, k297_14, k297_15, k297_17, k297_18, k297_19, k297_20, k297_21, k297_23, k297_24, k297_25, k297_27, k297_28, k297_29, k297_30, k297_31, k297_32, k297_33, k297_r, k297_s, F_al0, F_il1, J_ifeq, F_il2, F_il3, T_I, F_il4, J_ifne, T_ft, T_ret, T_getR, X_iald, F_is5i, F_is5r, F_is5m, F_il5, J_ifge, T_goto, F_is6i, F_is6r, F_is6m, F_is7i, F_is7r, F_is7m, F_is8i, F_is8r, F_is8m, F_il8, T_icge, J_icne, F_il6, F_is9i, F_is9r, F_is9m, F_il7, F_il9, J_iflt, F_inc8i, F_inc8r, F_inc8m, F_is10i, F_is10r, F_is10m, F_is11i, F_is11r, F_is11m, F_is12i, F_is12r, F_is12m, F_il12, T_icgt, T_iast, F_is13i, F_is13r, F_is13m, F_il13, F_is14i, F_is14r, F_is14m, F_il14, T_getI, T_sub, T_mul, T_add, F_is15i, F_is15r, F_is15m, F_il15, T_iclt, F_inc14i, F_inc14r, F_inc14m, F_inc13i, F_inc13r, F_inc13m, F_inc12i, F_inc12r, F_inc12m, F_il10, F_il11, c219, c286, c287, c288, c289, c294, c295, ↓s219, ↓s287, FM F, S, ga, hf, hx, hy, d1, d2, ln_742, z, ↓reduceIte, TK, lt_run hn, le43, Int.le_refl, Int.lt_irrefl, Option.some.injEq, exists_eq_left', true_and, and_true, if_true, if_false, decide_eq_false_iff_not, decide_eq_true_eq, Nat.reduceAdd, Nat.reduceLeDiff, Nat.reduceLT, Int.reduceAdd, Int.reduceSub, Int.reduceMul, Int.reduceNeg, not_true_eq_false, not_false_eq_true]
    exact st
set_option maxHeartbeats 4000000 in
theorem Preach (F : FH hr) (hn : 775 ≤ n) (C : Cp12 h hr) (C11 : Cp11 h) (x y z w : Int32) : Pr2 E 176 297 [.int x, .int y, .int z, .int w] h hr n (Po (fun h' => Cp12 h' hr) 12 12 h hr n) := by
  have C0 := C
  obtain ⟨N, b, C⟩ := C
  obtain ⟨pX, pY, pr, ⟨p1, p2⟩, p3, p4⟩ := C11
  obtain ⟨a, ha, ha', rfl⟩ := J_of x
  obtain ⟨f, hf, hf', rfl⟩ := J_of y
  obtain ⟨u, hu, hu', rfl⟩ := J_of z
  obtain ⟨v, hv, hv', rfl⟩ := J_of w
  have hN := C.1
  unfold Pr2
  by_cases g1 : 0 ≤ a ∧ a ≤ N - 1
  case neg =>
    simp +decide (maxSteps := 4000000) (disch := omega) only [k176_0, k176_1, k176_2, k176_3, k176_4, k176_r, k176_s, F_al0, F_il1, J_ifeq, F_il2, F_il3, F_il4, J_ifne, T_ft, T_I, T_ret, T_getR, X_aald, F_as5i, F_as5r, F_as5m, F_al5, F_as6i, F_as6r, F_as6m, F_al6, F_as7i, F_as7r, F_as7m, F_al7, T_getI, T_sub, F_is8i, F_is8r, F_is8m, F_il8, T_div, T_rem, T_add, F_is9i, F_is9r, F_is9m, F_is10i, F_is10r, F_is10m, F_il9, T_mul, F_il10, c3, c5, c6, c168, c171, c173, c177, c178, ↓s5, ↓s171, ↓s173, ↓s177, FX F, ↓s168 hn C.2.2.1.1 hN, ↓s286 hn C.2.2.1.2 hN, g1, ↓reduceIte, TK, lt_run hn, le43, Int.le_refl, Int.lt_irrefl, Option.some.injEq, exists_eq_left', true_and, and_true, if_true, if_false, decide_eq_false_iff_not, decide_eq_true_eq, Nat.reduceAdd, Nat.reduceLeDiff, Nat.reduceLT, Int.reduceAdd, Int.reduceSub, Int.reduceMul, Int.reduceNeg, not_true_eq_false, not_false_eq_true]
    refine ⟨_, rfl, ?_⟩
    simp +decide (maxSteps := 4000000) (disch := omega) only [k297_0, k297_1, k297_2, k297_3, k297_4, k297_6, k297_7, k297_8, k297_9, k297_10, k297_11, k297_12, k297_13, k297_14, k297_15, k297_17, k297_18, k297_19, k297_20, k297_21, k297_23, k297_24, k297_25, k297_27, k297_28, k297_29, k297_30, k297_31, k297_32, k297_33, k297_r, k297_s, F_al0, F_il1, J_ifeq, F_il2, F_il3, T_I, F_il4, J_ifne, T_ft, T_ret, T_getR, X_iald, F_is5i, F_is5r, F_is5m, F_il5, J_ifge, T_goto, F_is6i, F_is6r, F_is6m, F_is7i, F_is7r, F_is7m, F_is8i, F_is8r, F_is8m, F_il8, T_icge, J_icne, F_il6, F_is9i, F_is9r, F_is9m, F_il7, F_il9, J_iflt, F_inc8i, F_inc8r, F_inc8m, F_is10i, F_is10r, F_is10m, F_is11i, F_is11r, F_is11m, F_is12i, F_is12r, F_is12m, F_il12, T_icgt, T_iast, F_is13i, F_is13r, F_is13m, F_il13, F_is14i, F_is14r, F_is14m, F_il14, T_getI, T_sub, T_mul, T_add, F_is15i, F_is15r, F_is15m, F_il15, T_iclt, F_inc14i, F_inc14r, F_inc14m, F_inc13i, F_inc13r, F_inc13m, F_inc12i, F_inc12r, F_inc12m, F_il10, F_il11, c219, c286, c287, c288, c289, c294, c295, ↓s219, ↓s287, FM F, ↓s168 hn C.2.2.1.1 hN, ↓s286 hn C.2.2.1.2 hN, g1, ↓reduceIte, TK, lt_run hn, le43, Int.le_refl, Int.lt_irrefl, Option.some.injEq, exists_eq_left', true_and, and_true, if_true, if_false, decide_eq_false_iff_not, decide_eq_true_eq, Nat.reduceAdd, Nat.reduceLeDiff, Nat.reduceLT, Int.reduceAdd, Int.reduceSub, Int.reduceMul, Int.reduceNeg, not_true_eq_false, not_false_eq_true]
    first | exact ⟨rfl, ⟨C0, Kp.refl⟩, rfl, rfl⟩ | exact ⟨⟨C0, Kp.refl⟩, rfl, rfl⟩ | exact ⟨C0, Kp.refl⟩
  by_cases g2 : 0 ≤ f ∧ f ≤ 119
  case neg =>
    simp +decide (maxSteps := 4000000) (disch := omega) only [k176_0, k176_1, k176_2, k176_3, k176_4, k176_r, k176_s, F_al0, F_il1, J_ifeq, F_il2, F_il3, F_il4, J_ifne, T_ft, T_I, T_ret, T_getR, X_aald, F_as5i, F_as5r, F_as5m, F_al5, F_as6i, F_as6r, F_as6m, F_al6, F_as7i, F_as7r, F_as7m, F_al7, T_getI, T_sub, F_is8i, F_is8r, F_is8m, F_il8, T_div, T_rem, T_add, F_is9i, F_is9r, F_is9m, F_is10i, F_is10r, F_is10m, F_il9, T_mul, F_il10, c3, c5, c6, c168, c171, c173, c177, c178, ↓s5, ↓s171, ↓s173, ↓s177, FX F, ↓s168 hn C.2.2.1.1 hN, ↓s286 hn C.2.2.1.2 hN, g1, g2, ↓reduceIte, TK, lt_run hn, le43, Int.le_refl, Int.lt_irrefl, Option.some.injEq, exists_eq_left', true_and, and_true, if_true, if_false, decide_eq_false_iff_not, decide_eq_true_eq, Nat.reduceAdd, Nat.reduceLeDiff, Nat.reduceLT, Int.reduceAdd, Int.reduceSub, Int.reduceMul, Int.reduceNeg, not_true_eq_false, not_false_eq_true]
    refine ⟨_, rfl, ?_⟩
    simp +decide (maxSteps := 4000000) (disch := omega) only [k297_0, k297_1, k297_2, k297_3, k297_4, k297_6, k297_7, k297_8, k297_9, k297_10, k297_11, k297_12, k297_13, k297_14, k297_15, k297_17, k297_18, k297_19, k297_20, k297_21, k297_23, k297_24, k297_25, k297_27, k297_28, k297_29, k297_30, k297_31, k297_32, k297_33, k297_r, k297_s, F_al0, F_il1, J_ifeq, F_il2, F_il3, T_I, F_il4, J_ifne, T_ft, T_ret, T_getR, X_iald, F_is5i, F_is5r, F_is5m, F_il5, J_ifge, T_goto, F_is6i, F_is6r, F_is6m, F_is7i, F_is7r, F_is7m, F_is8i, F_is8r, F_is8m, F_il8, T_icge, J_icne, F_il6, F_is9i, F_is9r, F_is9m, F_il7, F_il9, J_iflt, F_inc8i, F_inc8r, F_inc8m, F_is10i, F_is10r, F_is10m, F_is11i, F_is11r, F_is11m, F_is12i, F_is12r, F_is12m, F_il12, T_icgt, T_iast, F_is13i, F_is13r, F_is13m, F_il13, F_is14i, F_is14r, F_is14m, F_il14, T_getI, T_sub, T_mul, T_add, F_is15i, F_is15r, F_is15m, F_il15, T_iclt, F_inc14i, F_inc14r, F_inc14m, F_inc13i, F_inc13r, F_inc13m, F_inc12i, F_inc12r, F_inc12m, F_il10, F_il11, c219, c286, c287, c288, c289, c294, c295, ↓s219, ↓s287, FM F, ↓s168 hn C.2.2.1.1 hN, ↓s286 hn C.2.2.1.2 hN, g1, g2, ↓reduceIte, TK, lt_run hn, le43, Int.le_refl, Int.lt_irrefl, Option.some.injEq, exists_eq_left', true_and, and_true, if_true, if_false, decide_eq_false_iff_not, decide_eq_true_eq, Nat.reduceAdd, Nat.reduceLeDiff, Nat.reduceLT, Int.reduceAdd, Int.reduceSub, Int.reduceMul, Int.reduceNeg, not_true_eq_false, not_false_eq_true]
    first | exact ⟨rfl, ⟨C0, Kp.refl⟩, rfl, rfl⟩ | exact ⟨⟨C0, Kp.refl⟩, rfl, rfl⟩ | exact ⟨C0, Kp.refl⟩
  by_cases g3 : -400 ≤ u ∧ u ≤ 400
  case neg =>
    simp +decide (maxSteps := 4000000) (disch := omega) only [k176_0, k176_1, k176_2, k176_3, k176_4, k176_r, k176_s, F_al0, F_il1, J_ifeq, F_il2, F_il3, F_il4, J_ifne, T_ft, T_I, T_ret, T_getR, X_aald, F_as5i, F_as5r, F_as5m, F_al5, F_as6i, F_as6r, F_as6m, F_al6, F_as7i, F_as7r, F_as7m, F_al7, T_getI, T_sub, F_is8i, F_is8r, F_is8m, F_il8, T_div, T_rem, T_add, F_is9i, F_is9r, F_is9m, F_is10i, F_is10r, F_is10m, F_il9, T_mul, F_il10, c3, c5, c6, c168, c171, c173, c177, c178, ↓s5, ↓s171, ↓s173, ↓s177, FX F, ↓s168 hn C.2.2.1.1 hN, ↓s286 hn C.2.2.1.2 hN, g1, g2, g3, ↓reduceIte, TK, lt_run hn, le43, Int.le_refl, Int.lt_irrefl, Option.some.injEq, exists_eq_left', true_and, and_true, if_true, if_false, decide_eq_false_iff_not, decide_eq_true_eq, Nat.reduceAdd, Nat.reduceLeDiff, Nat.reduceLT, Int.reduceAdd, Int.reduceSub, Int.reduceMul, Int.reduceNeg, not_true_eq_false, not_false_eq_true]
    refine ⟨_, rfl, ?_⟩
    simp +decide (maxSteps := 4000000) (disch := omega) only [k297_0, k297_1, k297_2, k297_3, k297_4, k297_6, k297_7, k297_8, k297_9, k297_10, k297_11, k297_12, k297_13, k297_14, k297_15, k297_17, k297_18, k297_19, k297_20, k297_21, k297_23, k297_24, k297_25, k297_27, k297_28, k297_29, k297_30, k297_31, k297_32, k297_33, k297_r, k297_s, F_al0, F_il1, J_ifeq, F_il2, F_il3, T_I, F_il4, J_ifne, T_ft, T_ret, T_getR, X_iald, F_is5i, F_is5r, F_is5m, F_il5, J_ifge, T_goto, F_is6i, F_is6r, F_is6m, F_is7i, F_is7r, F_is7m, F_is8i, F_is8r, F_is8m, F_il8, T_icge, J_icne, F_il6, F_is9i, F_is9r, F_is9m, F_il7, F_il9, J_iflt, F_inc8i, F_inc8r, F_inc8m, F_is10i, F_is10r, F_is10m, F_is11i, F_is11r, F_is11m, F_is12i, F_is12r, F_is12m, F_il12, T_icgt, T_iast, F_is13i, F_is13r, F_is13m, F_il13, F_is14i, F_is14r, F_is14m, F_il14, T_getI, T_sub, T_mul, T_add, F_is15i, F_is15r, F_is15m, F_il15, T_iclt, F_inc14i, F_inc14r, F_inc14m, F_inc13i, F_inc13r, F_inc13m, F_inc12i, F_inc12r, F_inc12m, F_il10, F_il11, c219, c286, c287, c288, c289, c294, c295, ↓s219, ↓s287, FM F, ↓s168 hn C.2.2.1.1 hN, ↓s286 hn C.2.2.1.2 hN, g1, g2, g3, ↓reduceIte, TK, lt_run hn, le43, Int.le_refl, Int.lt_irrefl, Option.some.injEq, exists_eq_left', true_and, and_true, if_true, if_false, decide_eq_false_iff_not, decide_eq_true_eq, Nat.reduceAdd, Nat.reduceLeDiff, Nat.reduceLT, Int.reduceAdd, Int.reduceSub, Int.reduceMul, Int.reduceNeg, not_true_eq_false, not_false_eq_true]
    first | exact ⟨rfl, ⟨C0, Kp.refl⟩, rfl, rfl⟩ | exact ⟨⟨C0, Kp.refl⟩, rfl, rfl⟩ | exact ⟨C0, Kp.refl⟩
  by_cases g4 : -400 ≤ v ∧ v ≤ 400
  case neg =>
    simp +decide (maxSteps := 4000000) (disch := omega) only [k176_0, k176_1, k176_2, k176_3, k176_4, k176_r, k176_s, F_al0, F_il1, J_ifeq, F_il2, F_il3, F_il4, J_ifne, T_ft, T_I, T_ret, T_getR, X_aald, F_as5i, F_as5r, F_as5m, F_al5, F_as6i, F_as6r, F_as6m, F_al6, F_as7i, F_as7r, F_as7m, F_al7, T_getI, T_sub, F_is8i, F_is8r, F_is8m, F_il8, T_div, T_rem, T_add, F_is9i, F_is9r, F_is9m, F_is10i, F_is10r, F_is10m, F_il9, T_mul, F_il10, c3, c5, c6, c168, c171, c173, c177, c178, ↓s5, ↓s171, ↓s173, ↓s177, FX F, ↓s168 hn C.2.2.1.1 hN, ↓s286 hn C.2.2.1.2 hN, g1, g2, g3, g4, ↓reduceIte, TK, lt_run hn, le43, Int.le_refl, Int.lt_irrefl, Option.some.injEq, exists_eq_left', true_and, and_true, if_true, if_false, decide_eq_false_iff_not, decide_eq_true_eq, Nat.reduceAdd, Nat.reduceLeDiff, Nat.reduceLT, Int.reduceAdd, Int.reduceSub, Int.reduceMul, Int.reduceNeg, not_true_eq_false, not_false_eq_true]
    refine ⟨_, rfl, ?_⟩
    simp +decide (maxSteps := 4000000) (disch := omega) only [k297_0, k297_1, k297_2, k297_3, k297_4, k297_6, k297_7, k297_8, k297_9, k297_10, k297_11, k297_12, k297_13, k297_14, k297_15, k297_17, k297_18, k297_19, k297_20, k297_21, k297_23, k297_24, k297_25, k297_27, k297_28, k297_29, k297_30, k297_31, k297_32, k297_33, k297_r, k297_s, F_al0, F_il1, J_ifeq, F_il2, F_il3, T_I, F_il4, J_ifne, T_ft, T_ret, T_getR, X_iald, F_is5i, F_is5r, F_is5m, F_il5, J_ifge, T_goto, F_is6i, F_is6r, F_is6m, F_is7i, F_is7r, F_is7m, F_is8i, F_is8r, F_is8m, F_il8, T_icge, J_icne, F_il6, F_is9i, F_is9r, F_is9m, F_il7, F_il9, J_iflt, F_inc8i, F_inc8r, F_inc8m, F_is10i, F_is10r, F_is10m, F_is11i, F_is11r, F_is11m, F_is12i, F_is12r, F_is12m, F_il12, T_icgt, T_iast, F_is13i, F_is13r, F_is13m, F_il13, F_is14i, F_is14r, F_is14m, F_il14, T_getI, T_sub, T_mul, T_add, F_is15i, F_is15r, F_is15m, F_il15, T_iclt, F_inc14i, F_inc14r, F_inc14m, F_inc13i, F_inc13r, F_inc13m, F_inc12i, F_inc12r, F_inc12m, F_il10, F_il11, c219, c286, c287, c288, c289, c294, c295, ↓s219, ↓s287, FM F, ↓s168 hn C.2.2.1.1 hN, ↓s286 hn C.2.2.1.2 hN, g1, g2, g3, g4, ↓reduceIte, TK, lt_run hn, le43, Int.le_refl, Int.lt_irrefl, Option.some.injEq, exists_eq_left', true_and, and_true, if_true, if_false, decide_eq_false_iff_not, decide_eq_true_eq, Nat.reduceAdd, Nat.reduceLeDiff, Nat.reduceLT, Int.reduceAdd, Int.reduceSub, Int.reduceMul, Int.reduceNeg, not_true_eq_false, not_false_eq_true]
    first | exact ⟨rfl, ⟨C0, Kp.refl⟩, rfl, rfl⟩ | exact ⟨⟨C0, Kp.refl⟩, rfl, rfl⟩ | exact ⟨C0, Kp.refl⟩
  have a0 := g1.1
  have a1 : a < N := by omega
  have R := C.2.1
  have r1 := up_r R (i := a) (by omega) a1
  have r2 := up_r R r1.1.1 r1.1.2.2
  have r3 := up_r R r2.1.1 r2.1.2.2
  have x98 := X98 F a0 (show a < 10 by omega)
  have e := bid_p a0
  rw [← e] at x98
  have Va := C.v F (i := a) (by omega) a1
  have Vm := C.v F r1.1.1 r1.1.2.2
  have Vt := C.v F r2.1.1 r2.1.2.2
  have xa := Va.1.x E F
  have xm := Vm.1.x E F
  have xt := Vt.1.x E F
  have xa2 := Va.1.r
  have xm2 := Vm.1.r
  have xt2 := Vt.1.r
  have ka : bid a < n := by omega
  have km : bid (up b a) < n := by omega
  have kt : bid (up b (up b a)) < n := by omega
  have S1 := fun Q => s5 (E := E) (Q := Q) F hn C (i := a) (by omega) a1
  have S2 := fun Q => s5 (E := E) (Q := Q) F hn C r1.1.1 r1.1.2.2
  by_cases rm : rmk b f a ∧ rmk b f (up b a) ∧ rmk b f (up b (up b a))
  case neg =>
    have mr : Sp E 297 [.ref 704, .int (J a), .int (J f), .int (J u), .int (J v)] h hr n (fun q => q.1 = some (.int (J (-4))) ∧ Po (fun h' => Cp12 h' hr) 12 12 h hr n q.2.1 q.2.2.1 q.2.2.2) := z297m F hn C.m a0 a1 g2 g3 g4 (fun q => absurd q rm) (fun _ => ⟨rfl, ⟨C0, Kp.refl⟩, rfl, rfl⟩)
    by_cases q1 : rmk b f a
    · have T1 := fun Q => s177 (E := E) (Q := Q) (r := true) F hn C.q (i := a) (by omega) a1 g2 ⟨fun _ => q1, fun _ => rfl⟩
      by_cases q2 : rmk b f (up b a)
      · have T2 := fun Q => s177 (E := E) (Q := Q) (r := true) F hn C.q r1.1.1 r1.1.2.2 g2 ⟨fun _ => q2, fun _ => rfl⟩
        have T3 := fun Q => s177 (E := E) (Q := Q) (r := false) F hn C.q r2.1.1 r2.1.2.2 g2 ⟨fun q => (by cases q), fun q => absurd ⟨q1, q2, q⟩ rm⟩
        rw [Bz_t] at T1 T2
        rw [Bz_f] at T3
        simp +decide (maxSteps := 4000000) (disch := omega) only [k176_0, k176_1, k176_2, k176_3, k176_4, k176_r, k176_s, F_al0, F_il1, J_ifeq, F_il2, F_il3, F_il4, J_ifne, T_ft, T_I, T_ret, T_getR, X_aald, F_as5i, F_as5r, F_as5m, F_al5, F_as6i, F_as6r, F_as6m, F_al6, F_as7i, F_as7r, F_as7m, F_al7, T_getI, T_sub, F_is8i, F_is8r, F_is8m, F_il8, T_div, T_rem, T_add, F_is9i, F_is9r, F_is9m, F_is10i, F_is10r, F_is10m, F_il9, T_mul, F_il10, c3, c5, c6, c168, c171, c173, c177, c178, ↓s171, ↓s173, FX F, ↓s168 hn C.2.2.1.1 hN, g1, g2, g3, g4, x98, S1, S2, T1, T2, T3, xa, xm, xt, ka, km, kt, kd_98, ln_98, ↓reduceIte, TK, lt_run hn, le43, Int.le_refl, Int.lt_irrefl, Option.some.injEq, exists_eq_left', true_and, and_true, if_true, if_false, decide_eq_false_iff_not, decide_eq_true_eq, Nat.reduceAdd, Nat.reduceLeDiff, Nat.reduceLT, Int.reduceAdd, Int.reduceSub, Int.reduceMul, Int.reduceNeg, not_true_eq_false, not_false_eq_true]
        exact ⟨_, rfl, mr⟩
      · have T2 := fun Q => s177 (E := E) (Q := Q) (r := false) F hn C.q r1.1.1 r1.1.2.2 g2 ⟨fun q => (by cases q), fun q => absurd q q2⟩
        rw [Bz_t] at T1
        rw [Bz_f] at T2
        simp +decide (maxSteps := 4000000) (disch := omega) only [k176_0, k176_1, k176_2, k176_3, k176_4, k176_r, k176_s, F_al0, F_il1, J_ifeq, F_il2, F_il3, F_il4, J_ifne, T_ft, T_I, T_ret, T_getR, X_aald, F_as5i, F_as5r, F_as5m, F_al5, F_as6i, F_as6r, F_as6m, F_al6, F_as7i, F_as7r, F_as7m, F_al7, T_getI, T_sub, F_is8i, F_is8r, F_is8m, F_il8, T_div, T_rem, T_add, F_is9i, F_is9r, F_is9m, F_is10i, F_is10r, F_is10m, F_il9, T_mul, F_il10, c3, c5, c6, c168, c171, c173, c177, c178, ↓s171, ↓s173, FX F, ↓s168 hn C.2.2.1.1 hN, g1, g2, g3, g4, x98, S1, S2, T1, T2, xa, xm, xt, ka, km, kt, kd_98, ln_98, ↓reduceIte, TK, lt_run hn, le43, Int.le_refl, Int.lt_irrefl, Option.some.injEq, exists_eq_left', true_and, and_true, if_true, if_false, decide_eq_false_iff_not, decide_eq_true_eq, Nat.reduceAdd, Nat.reduceLeDiff, Nat.reduceLT, Int.reduceAdd, Int.reduceSub, Int.reduceMul, Int.reduceNeg, not_true_eq_false, not_false_eq_true]
        exact ⟨_, rfl, mr⟩
    · have T1 := fun Q => s177 (E := E) (Q := Q) (r := false) F hn C.q (i := a) (by omega) a1 g2 ⟨fun q => (by cases q), fun q => absurd q q1⟩
      rw [Bz_f] at T1
      simp +decide (maxSteps := 4000000) (disch := omega) only [k176_0, k176_1, k176_2, k176_3, k176_4, k176_r, k176_s, F_al0, F_il1, J_ifeq, F_il2, F_il3, F_il4, J_ifne, T_ft, T_I, T_ret, T_getR, X_aald, F_as5i, F_as5r, F_as5m, F_al5, F_as6i, F_as6r, F_as6m, F_al6, F_as7i, F_as7r, F_as7m, F_al7, T_getI, T_sub, F_is8i, F_is8r, F_is8m, F_il8, T_div, T_rem, T_add, F_is9i, F_is9r, F_is9m, F_is10i, F_is10r, F_is10m, F_il9, T_mul, F_il10, c3, c5, c6, c168, c171, c173, c177, c178, ↓s171, ↓s173, FX F, ↓s168 hn C.2.2.1.1 hN, g1, g2, g3, g4, x98, S1, S2, T1, xa, xm, xt, ka, km, kt, kd_98, ln_98, ↓reduceIte, TK, lt_run hn, le43, Int.le_refl, Int.lt_irrefl, Option.some.injEq, exists_eq_left', true_and, and_true, if_true, if_false, decide_eq_false_iff_not, decide_eq_true_eq, Nat.reduceAdd, Nat.reduceLeDiff, Nat.reduceLT, Int.reduceAdd, Int.reduceSub, Int.reduceMul, Int.reduceNeg, not_true_eq_false, not_false_eq_true]
      exact ⟨_, rfl, mr⟩
  obtain ⟨q1, q2, q3⟩ := id rm
  have T1 := fun Q => s177 (E := E) (Q := Q) (r := true) F hn C.q (i := a) (by omega) a1 g2 ⟨fun _ => q1, fun _ => rfl⟩
  have T2 := fun Q => s177 (E := E) (Q := Q) (r := true) F hn C.q r1.1.1 r1.1.2.2 g2 ⟨fun _ => q2, fun _ => rfl⟩
  have T3 := fun Q => s177 (E := E) (Q := Q) (r := true) F hn C.q r2.1.1 r2.1.2.2 g2 ⟨fun _ => q3, fun _ => rfl⟩
  rw [Bz_t] at T1 T2 T3
  simp +decide (maxSteps := 4000000) (disch := omega) only [k176_0, k176_1, k176_2, k176_3, k176_4, k176_r, k176_s, F_al0, F_il1, J_ifeq, F_il2, F_il3, F_il4, J_ifne, T_ft, T_I, T_ret, T_getR, X_aald, F_as5i, F_as5r, F_as5m, F_al5, F_as6i, F_as6r, F_as6m, F_al6, F_as7i, F_as7r, F_as7m, F_al7, T_getI, T_sub, F_is8i, F_is8r, F_is8m, F_il8, T_div, T_rem, T_add, F_is9i, F_is9r, F_is9m, F_is10i, F_is10r, F_is10m, F_il9, T_mul, F_il10, c3, c5, c6, c168, c171, c173, c177, c178, ↓s171, ↓s173, FX F, ↓s168 hn C.2.2.1.1 hN, g1, g2, g3, g4, x98, S1, S2, T1, T2, T3, xa, xm, xt, ka, km, kt, p1, p2, kd_98, ln_98, ↓reduceIte, TK, lt_run hn, le43, Int.le_refl, Int.lt_irrefl, Option.some.injEq, exists_eq_left', true_and, and_true, if_true, if_false, decide_eq_false_iff_not, decide_eq_true_eq, Nat.reduceAdd, Nat.reduceLeDiff, Nat.reduceLT, Int.reduceAdd, Int.reduceSub, Int.reduceMul, Int.reduceNeg, not_true_eq_false, not_false_eq_true]
  refine w6 F hn C a0 a1 g2 (X := u - pX) (Y := v - pY) (by omega) (by omega) ?_
  have la := bLH R (i := a) (by omega) a1
  have lm := bLH R r1.1.1 r1.1.2.2
  have lt := bLH R r2.1.1 r2.1.2.2
  have dd := dst_r R hN.2 a0 a1 (an b f) (X := u - pX) (Y := v - pY) (by omega) (by omega)
  have tk := rcu_k (d := dst b (an b f) a (u - pX) (v - pY)) (t := (-1, 0, 0, 0)) (lo := bLo b (up b (up b a))) (lv := bLo b (up b a)) (hv := bHi b (up b a)) (lw := bLo b a) (hw := bHi b a) (P := fun x y z => (bLo b (up b (up b a)) ≤ x ∧ x ≤ bHi b (up b (up b a))) ∧ (bLo b (up b a) ≤ y ∧ y ≤ bHi b (up b a)) ∧ bLo b a ≤ z ∧ z ≤ bHi b a) (fun x y z => (dd x y z).1) (Or.inl ⟨rfl, rfl, rfl, rfl⟩) lm.2.1 la.2.1 (bHi b (up b (up b a)) - bLo b (up b (up b a)) + 1).toNat (fun x y z h1 h2 h3 h4 h5 h6 => ⟨⟨h1, by omega⟩, ⟨h3, h4⟩, h5, h6⟩)
  have tk2 := tk.2 (by omega)
  have tk1 := tk.1
  change Rok _ _ (rch b (an b f) a (u - pX) (v - pY)) at tk1
  change 0 ≤ (rch b (an b f) a (u - pX) (v - pY)).1 at tk2
  have SS : ∀ h1, Bm N b h1 → h1 704 51 = J pX → h1 704 52 = J pY → (∀ i, 0 ≤ i → i < N → gA h1 749 i = J (an b f i) ∧ 0 ≤ an b f i ∧ an b f i ≤ 31) → ∀ v13 v14 v15 Q2, (∀ h' v12 v13 v14 v15, Ef Srh h1 h' → Tm E 297 (a_bl 297 31) [.ref 704, .int (J a), .int (J f), .int (J u), .int (J v), .int (J (up b a)), .int (J (up b (up b a))), .int (J 1), .int (J (rch b (an b f) a (u - pX) (v - pY)).1), .int (J (rch b (an b f) a (u - pX) (v - pY)).2.1), .int (J (rch b (an b f) a (u - pX) (v - pY)).2.2.1), .int (J (rch b (an b f) a (u - pX) (v - pY)).2.2.2), v12, v13, v14, v15] [] h' hr n Q2) → Tm E 297 (a_bl 297 16) [.ref 704, .int (J a), .int (J f), .int (J u), .int (J v), .int (J (up b a)), .int (J (up b (up b a))), .int (J 1), .int (J (-1)), .int (J 0), .int (J 0), .int (J 0), .int (J (bLo b (up b (up b a)))), v13, v14, v15] [] h1 hr n Q2 := fun h1 c1 c2 c3 c4 v13 v14 v15 Q2 k => z297s F hn c1 a0 a1 g3 g4 pr.1 pr.2 c2 c3 c4 .null v13 v14 v15 k
  generalize rch b (an b f) a (u - pX) (v - pY) = T at *
  obtain ⟨t0, t1, t2, t3⟩ := T
  rcases tk1 with ⟨z1, _⟩ | ⟨_, z2, z3, z4, z5⟩
  · dsimp only at z1 tk2
    omega
  dsimp only at z2 z3 z4 z5 tk2
  have be := brc_e R hN.2 a0 a1 g2 z3 z4 z5 q1 q2 q3
  have d1 := dd t1 t2 t3
  rw [← z2] at d1
  have dx : t0 = (exy b (an b f) a 8 t1 t2 t3 - (u - pX)) * (exy b (an b f) a 8 t1 t2 t3 - (u - pX)) + (exy b (an b f) a 0 t1 t2 t3 - (v - pY)) * (exy b (an b f) a 0 t1 t2 t3 - (v - pY)) := z2
  have xr8 := exy_r R hN.2 a0 a1 (an b f) 8 t1 t2 t3
  have xr0 := exy_r R hN.2 a0 a1 (an b f) 0 t1 t2 t3
  have fr : fnd (t0, t1, t2, t3) = (t1 * 32 + t2) * 32 + t3 := rfl
  rw [fr]
  have f1 : ((t1 * 32 + t2) * 32 + t3) / 1024 = t1 := by omega
  have f2 : ((t1 * 32 + t2) * 32 + t3) / 32 % 32 = t2 := by omega
  have f3 : ((t1 * 32 + t2) * 32 + t3) % 32 = t3 := by omega
  simp +decide (maxSteps := 4000000) (disch := omega) only [k176_0, k176_1, k176_2, k176_3, k176_4, k176_r, k176_s, F_al0, F_il1, J_ifeq, F_il2, F_il3, F_il4, J_ifne, T_ft, T_I, T_ret, T_getR, X_aald, F_as5i, F_as5r, F_as5m, F_al5, F_as6i, F_as6r, F_as6m, F_al6, F_as7i, F_as7r, F_as7m, F_al7, T_getI, T_sub, F_is8i, F_is8r, F_is8m, F_il8, T_div, T_rem, T_add, F_is9i, F_is9r, F_is9m, F_is10i, F_is10r, F_is10m, F_il9, T_mul, F_il10, c3, c5, c6, c168, c171, c173, c177, c178, ↓s5, ↓s168, ↓s171, ↓s173, ↓s177, FX F, J_divp, f1, xa, xm, xt, ka, km, kt, ↓reduceIte, TK, lt_run hn, le43, Int.le_refl, Int.lt_irrefl, Option.some.injEq, exists_eq_left', true_and, and_true, if_true, if_false, decide_eq_false_iff_not, decide_eq_true_eq, Nat.reduceAdd, Nat.reduceLeDiff, Nat.reduceLT, Int.reduceAdd, Int.reduceSub, Int.reduceMul, Int.reduceNeg, not_true_eq_false, not_false_eq_true]
  refine w178 F hn C.q r2.1.1 r2.1.2.2 g2 z3 q3 (fun h1 B1 e1 => ?_)
  have lm1 := bLo_p b (up b (up b a)) f t1 (up b a)
  have rm1 : rmk (bpt b (up b (up b a)) f t1) f (up b a) := rmk_p (by omega) q2
  simp +decide (maxSteps := 4000000) (disch := omega) only [k176_0, k176_1, k176_2, k176_3, k176_4, k176_r, k176_s, F_al0, F_il1, J_ifeq, F_il2, F_il3, F_il4, J_ifne, T_ft, T_I, T_ret, T_getR, X_aald, F_as5i, F_as5r, F_as5m, F_al5, F_as6i, F_as6r, F_as6m, F_al6, F_as7i, F_as7r, F_as7m, F_al7, T_getI, T_sub, F_is8i, F_is8r, F_is8m, F_il8, T_div, T_rem, T_add, F_is9i, F_is9r, F_is9m, F_is10i, F_is10r, F_is10m, F_il9, T_mul, F_il10, c3, c5, c6, c168, c171, c173, c177, c178, ↓s5, ↓s168, ↓s171, ↓s173, ↓s177, FX F, J_divp, J_remp, f2, xa, xm, xt, ka, km, kt, ↓reduceIte, TK, lt_run hn, le43, Int.le_refl, Int.lt_irrefl, Option.some.injEq, exists_eq_left', true_and, and_true, if_true, if_false, decide_eq_false_iff_not, decide_eq_true_eq, Nat.reduceAdd, Nat.reduceLeDiff, Nat.reduceLT, Int.reduceAdd, Int.reduceSub, Int.reduceMul, Int.reduceNeg, not_true_eq_false, not_false_eq_true]
  refine w178 F hn B1 r1.1.1 r1.1.2.2 g2 (by rw [lm1.1, lm1.2]; exact z4) rm1 (fun h2 B2 e2 => ?_)
  have la1 := bLo_p b (up b (up b a)) f t1 a
  have la2 := bLo_p (bpt b (up b (up b a)) f t1) (up b a) f t2 a
  have u1 := r1.2 a0
  have ra2 : rmk (bpt (bpt b (up b (up b a)) f t1) (up b a) f t2) f a := rmk_p (by omega) (rmk_p (by omega) q1)
  simp +decide (maxSteps := 4000000) (disch := omega) only [k176_0, k176_1, k176_2, k176_3, k176_4, k176_r, k176_s, F_al0, F_il1, J_ifeq, F_il2, F_il3, F_il4, J_ifne, T_ft, T_I, T_ret, T_getR, X_aald, F_as5i, F_as5r, F_as5m, F_al5, F_as6i, F_as6r, F_as6m, F_al6, F_as7i, F_as7r, F_as7m, F_al7, T_getI, T_sub, F_is8i, F_is8r, F_is8m, F_il8, T_div, T_rem, T_add, F_is9i, F_is9r, F_is9m, F_is10i, F_is10r, F_is10m, F_il9, T_mul, F_il10, c3, c5, c6, c168, c171, c173, c177, c178, ↓s5, ↓s168, ↓s171, ↓s173, ↓s177, FX F, J_divp, J_remp, f3, xa, xm, xt, ka, km, kt, ↓reduceIte, TK, lt_run hn, le43, Int.le_refl, Int.lt_irrefl, Option.some.injEq, exists_eq_left', true_and, and_true, if_true, if_false, decide_eq_false_iff_not, decide_eq_true_eq, Nat.reduceAdd, Nat.reduceLeDiff, Nat.reduceLT, Int.reduceAdd, Int.reduceSub, Int.reduceMul, Int.reduceNeg, not_true_eq_false, not_false_eq_true]
  refine w178 F hn B2 (by omega) a1 g2 (by rw [la2.1, la2.2, la1.1, la1.2]; exact z5) ra2 (fun h3 B3 e3 => ?_)
  change Bq N (brc b f a t1 t2 t3) h3 hr at B3
  have ee : Ef (fun x _ => 635 ≤ x ∧ x < 635 + 6 * N.toNat) h h3 := ((e1.mono fun x k q => by omega).trans (e2.mono fun x k q => by omega)).trans (e3.mono fun x k q => by omega)
  have p1' : h3 43 11 = J pX := by
    rw [ee _ _ (by omega)]
    exact p1
  have p2' : h3 43 12 = J pY := by
    rw [ee _ _ (by omega)]
    exact p2
  have nx : pX + exy b (an b f) a 8 t1 t2 t3 - u = exy b (an b f) a 8 t1 t2 t3 - (u - pX) := by omega
  have ny : pY + exy b (an b f) a 0 t1 t2 t3 - v = exy b (an b f) a 0 t1 t2 t3 - (v - pY) := by omega
  simp +decide (maxSteps := 4000000) (disch := omega) only [k176_0, k176_1, k176_2, k176_3, k176_4, k176_r, k176_s, F_al0, F_il1, J_ifeq, F_il2, F_il3, F_il4, J_ifne, T_ft, T_I, T_ret, T_getR, X_aald, F_as5i, F_as5r, F_as5m, F_al5, F_as6i, F_as6r, F_as6m, F_al6, F_as7i, F_as7r, F_as7m, F_al7, T_getI, T_sub, F_is8i, F_is8r, F_is8m, F_il8, T_div, T_rem, T_add, F_is9i, F_is9r, F_is9m, F_is10i, F_is10r, F_is10m, F_il9, T_mul, F_il10, c3, c5, c6, c168, c171, c173, c177, c178, ↓s5, ↓s168, ↓s171, ↓s173, ↓s177, FX F, p1', xa, ka, ↓reduceIte, TK, lt_run hn, le43, Int.le_refl, Int.lt_irrefl, Option.some.injEq, exists_eq_left', true_and, and_true, if_true, if_false, decide_eq_false_iff_not, decide_eq_true_eq, Nat.reduceAdd, Nat.reduceLeDiff, Nat.reduceLT, Int.reduceAdd, Int.reduceSub, Int.reduceMul, Int.reduceNeg, not_true_eq_false, not_false_eq_true]
  refine w3q F hn B3 (Or.inl rfl) (by omega) a1 g2 ?_
  rw [if_pos rfl, be 8]
  simp +decide (maxSteps := 4000000) (disch := omega) only [k176_0, k176_1, k176_2, k176_3, k176_4, k176_r, k176_s, F_al0, F_il1, J_ifeq, F_il2, F_il3, F_il4, J_ifne, T_ft, T_I, T_ret, T_getR, X_aald, F_as5i, F_as5r, F_as5m, F_al5, F_as6i, F_as6r, F_as6m, F_al6, F_as7i, F_as7r, F_as7m, F_al7, T_getI, T_sub, F_is8i, F_is8r, F_is8m, F_il8, T_div, T_rem, T_add, F_is9i, F_is9r, F_is9m, F_is10i, F_is10r, F_is10m, F_il9, T_mul, F_il10, c3, c5, c6, c168, c171, c173, c177, c178, ↓s5, ↓s168, ↓s171, ↓s173, ↓s177, FX F, p2', xa, ka, ↓reduceIte, TK, lt_run hn, le43, Int.le_refl, Int.lt_irrefl, Option.some.injEq, exists_eq_left', true_and, and_true, if_true, if_false, decide_eq_false_iff_not, decide_eq_true_eq, Nat.reduceAdd, Nat.reduceLeDiff, Nat.reduceLT, Int.reduceAdd, Int.reduceSub, Int.reduceMul, Int.reduceNeg, not_true_eq_false, not_false_eq_true]
  refine w3q F hn B3 (Or.inr rfl) (by omega) a1 g2 ?_
  rw [if_neg (by decide), be 0]
  simp +decide (maxSteps := 4000000) (disch := omega) only [k176_0, k176_1, k176_2, k176_3, k176_4, k176_r, k176_s, F_al0, F_il1, J_ifeq, F_il2, F_il3, F_il4, J_ifne, T_ft, T_I, T_ret, T_getR, X_aald, F_as5i, F_as5r, F_as5m, F_al5, F_as6i, F_as6r, F_as6m, F_al6, F_as7i, F_as7r, F_as7m, F_al7, T_getI, T_sub, F_is8i, F_is8r, F_is8m, F_il8, T_div, T_rem, T_add, F_is9i, F_is9r, F_is9m, F_is10i, F_is10r, F_is10m, F_il9, T_mul, F_il10, c3, c5, c6, c168, c171, c173, c177, c178, ↓s5, ↓s168, ↓s171, ↓s173, ↓s177, nx, ny, ← dx, ↓reduceIte, TK, lt_run hn, le43, Int.le_refl, Int.lt_irrefl, Option.some.injEq, exists_eq_left', true_and, and_true, if_true, if_false, decide_eq_false_iff_not, decide_eq_true_eq, Nat.reduceAdd, Nat.reduceLeDiff, Nat.reduceLT, Int.reduceAdd, Int.reduceSub, Int.reduceMul, Int.reduceNeg, not_true_eq_false, not_false_eq_true]
  refine ⟨_, rfl, ?_⟩
  have M3 : Bm N b h3 := C.m.ef ee (fun x k h1 h2 q => by omega) (by omega)
  refine z297m F hn M3 a0 a1 g2 g3 g4 (fun _ v9 => ?_) (fun q => absurd rm q)
  rw [k297_13]
  simp +decide (maxSteps := 4000000) (disch := omega) only [k297_0, k297_1, k297_2, k297_3, k297_4, k297_6, k297_7, k297_8, k297_9, k297_10, k297_11, k297_12, k297_13, k297_15, k297_17, k297_18, k297_19, k297_20, k297_21, k297_23, k297_24, k297_25, k297_27, k297_28, k297_29, k297_30, k297_31, k297_32, k297_33, k297_r, k297_s, F_al0, F_il1, J_ifeq, F_il2, F_il3, T_I, F_il4, J_ifne, T_ft, T_ret, T_getR, X_iald, F_is5i, F_is5r, F_is5m, F_il5, J_ifge, T_goto, F_is6i, F_is6r, F_is6m, F_is7i, F_is7r, F_is7m, F_is8i, F_is8r, F_is8m, F_il8, T_icge, J_icne, F_il6, F_is9i, F_is9r, F_is9m, F_il7, F_il9, J_iflt, F_inc8i, F_inc8r, F_inc8m, F_is10i, F_is10r, F_is10m, F_is11i, F_is11r, F_is11m, F_is12i, F_is12r, F_is12m, F_il12, T_icgt, T_iast, F_is13i, F_is13r, F_is13m, F_il13, F_is14i, F_is14r, F_is14m, F_il14, T_getI, T_sub, T_mul, T_add, F_is15i, F_is15r, F_is15m, F_il15, T_iclt, F_inc14i, F_inc14r, F_inc14m, F_inc13i, F_inc13r, F_inc13m, F_inc12i, F_inc12r, F_inc12m, F_il10, F_il11, c219, c286, c287, c288, c289, c294, c295, ↓s219, ↓s286, ↓s287, FM F, ↓reduceIte, TK, lt_run hn, le43, Int.le_refl, Int.lt_irrefl, Option.some.injEq, exists_eq_left', true_and, and_true, if_true, if_false, decide_eq_false_iff_not, decide_eq_true_eq, Nat.reduceAdd, Nat.reduceLeDiff, Nat.reduceLT, Int.reduceAdd, Int.reduceSub, Int.reduceMul, Int.reduceNeg, not_true_eq_false, not_false_eq_true]
  refine w294m F hn M3 g2 (fun h4 A4 e4 => ?_)
  have M4 := M3.ef e4 (fun x k h1 h2 q => by omega) (by omega)
  have p3' : h4 704 51 = J pX := by
    rw [e4 _ _ (by decide), ee _ _ (by omega)]
    exact p3
  have p4' : h4 704 52 = J pY := by
    rw [e4 _ _ (by decide), ee _ _ (by omega)]
    exact p4
  have SS4 := SS h4 M4 p3' p4' (fun i i0 i1 => ⟨A4 i i0 i1, an_r R f (by omega) i1⟩)
  have b0 : ∀ i, i = -1 → bLo b i = 0 ∧ bHi b i = 0 := fun i e => by rw [e]; exact ⟨rfl, rfl⟩
  have fin : ∀ h' v12 v13 v14 v15, Ef Srh h4 h' → Tm E 297 (a_bl 297 31) [.ref 704, .int (J a), .int (J f), .int (J u), .int (J v), .int (J (up b a)), .int (J (up b (up b a))), .int (J 1), .int (J t0), .int (J t1), .int (J t2), .int (J t3), v12, v13, v14, v15] [] h' hr n (fun q => q.1 = some (.int (J t0)) ∧ Po (fun h' => Cp12 h' hr) 12 12 h hr n q.2.1 q.2.2.1 q.2.2.2) := fun h5 v12 v13 v14 v15 e5 => by
    have M5 := M4.ef e5 (fun x k h1 h2 q => by unfold Srh at q; omega) (by unfold Srh; omega)
    have last : ∀ h7, Bm N (bpt (bpt b (up b (up b a)) f t1) (up b a) f t2) h7 → Ef (fun x _ => 746 ≤ x ∧ x ≤ 748) h5 h7 → Tm E 297 (a_bl 297 33) [.ref 704, .int (J a), .int (J f), .int (J u), .int (J v), .int (J (up b a)), .int (J (up b (up b a))), .int (J 1), .int (J t0), .int (J t1), .int (J t2), .int (J t3), v12, v13, v14, v15] [] h7 hr n (fun q => q.1 = some (.int (J t0)) ∧ Po (fun h' => Cp12 h' hr) 12 12 h hr n q.2.1 q.2.2.1 q.2.2.2) := fun h7 M7 e7 => by
      rw [k297_33]
      simp +decide (maxSteps := 4000000) (disch := omega) only [k297_0, k297_1, k297_2, k297_3, k297_4, k297_6, k297_7, k297_8, k297_9, k297_10, k297_11, k297_12, k297_13, k297_14, k297_15, k297_17, k297_18, k297_19, k297_20, k297_21, k297_23, k297_24, k297_25, k297_27, k297_28, k297_29, k297_30, k297_31, k297_32, k297_33, k297_r, k297_s, F_al0, F_il1, J_ifeq, F_il2, F_il3, T_I, F_il4, J_ifne, T_ft, T_ret, T_getR, X_iald, F_is5i, F_is5r, F_is5m, F_il5, J_ifge, T_goto, F_is6i, F_is6r, F_is6m, F_is7i, F_is7r, F_is7m, F_is8i, F_is8r, F_is8m, F_il8, T_icge, J_icne, F_il6, F_is9i, F_is9r, F_is9m, F_il7, F_il9, J_iflt, F_inc8i, F_inc8r, F_inc8m, F_is10i, F_is10r, F_is10m, F_is11i, F_is11r, F_is11m, F_is12i, F_is12r, F_is12m, F_il12, T_icgt, T_iast, F_is13i, F_is13r, F_is13m, F_il13, F_is14i, F_is14r, F_is14m, F_il14, T_getI, T_sub, T_mul, T_add, F_is15i, F_is15r, F_is15m, F_il15, T_iclt, F_inc14i, F_inc14r, F_inc14m, F_inc13i, F_inc13r, F_inc13m, F_inc12i, F_inc12r, F_inc12m, F_il10, F_il11, c219, c286, c287, c288, c289, c294, c295, ↓s219, ↓s286, ↓s287, FM F, ↓reduceIte, TK, lt_run hn, le43, Int.le_refl, Int.lt_irrefl, Option.some.injEq, exists_eq_left', true_and, and_true, if_true, if_false, decide_eq_false_iff_not, decide_eq_true_eq, Nat.reduceAdd, Nat.reduceLeDiff, Nat.reduceLT, Int.reduceAdd, Int.reduceSub, Int.reduceMul, Int.reduceNeg, not_true_eq_false, not_false_eq_true]
      refine w289m F hn M7 a0 a1 g2 (by rw [la2.1, la2.2, la1.1, la1.2]; exact z5) ra2 (fun h8 M8 e8 => ?_)
      change Bm N (brc b f a t1 t2 t3) h8 at M8
      simp +decide (maxSteps := 4000000) (disch := omega) only [k297_0, k297_1, k297_2, k297_3, k297_4, k297_6, k297_7, k297_8, k297_9, k297_10, k297_11, k297_12, k297_13, k297_14, k297_15, k297_17, k297_18, k297_19, k297_20, k297_21, k297_23, k297_24, k297_25, k297_27, k297_28, k297_29, k297_30, k297_31, k297_32, k297_33, k297_r, k297_s, F_al0, F_il1, J_ifeq, F_il2, F_il3, T_I, F_il4, J_ifne, T_ft, T_ret, T_getR, X_iald, F_is5i, F_is5r, F_is5m, F_il5, J_ifge, T_goto, F_is6i, F_is6r, F_is6m, F_is7i, F_is7r, F_is7m, F_is8i, F_is8r, F_is8m, F_il8, T_icge, J_icne, F_il6, F_is9i, F_is9r, F_is9m, F_il7, F_il9, J_iflt, F_inc8i, F_inc8r, F_inc8m, F_is10i, F_is10r, F_is10m, F_is11i, F_is11r, F_is11m, F_is12i, F_is12r, F_is12m, F_il12, T_icgt, T_iast, F_is13i, F_is13r, F_is13m, F_il13, F_is14i, F_is14r, F_is14m, F_il14, T_getI, T_sub, T_mul, T_add, F_is15i, F_is15r, F_is15m, F_il15, T_iclt, F_inc14i, F_inc14r, F_inc14m, F_inc13i, F_inc13r, F_inc13m, F_inc12i, F_inc12r, F_inc12m, F_il10, F_il11, c219, c286, c287, c288, c289, c294, c295, ↓s219, ↓s286, ↓s287, ↓reduceIte, TK, lt_run hn, le43, Int.le_refl, Int.lt_irrefl, Option.some.injEq, exists_eq_left', true_and, and_true, if_true, if_false, decide_eq_false_iff_not, decide_eq_true_eq, Nat.reduceAdd, Nat.reduceLeDiff, Nat.reduceLT, Int.reduceAdd, Int.reduceSub, Int.reduceMul, Int.reduceNeg, not_true_eq_false, not_false_eq_true]
      have em : Ef (fun x k => Srh x k ∨ (746 ≤ x ∧ x ≤ 748)) h3 h8 := (((e4.mono fun x k q => Or.inl (Or.inl q)).trans (e5.mono fun x k q => Or.inl q)).trans (e7.mono fun x k q => Or.inr q)).trans (e8.mono fun x k q => Or.inr q)
      refine ⟨⟨⟨N, brc b f a t1 t2 t3, C.1, B3.2.1, ⟨?_, M8.2.2.1⟩, fun i i0 i1 => ⟨(B3.2.2.1 i i0 i1).ef em (fun x k h1 h2 q => by unfold Srh at q; omega), M8.2.2.2 i i0 i1⟩, fun i i0 i1 => ?_, B3.2.2.2.ef em (fun x k h1 h2 q => by unfold Srh at q; omega)⟩, ?_⟩, rfl, rfl⟩
      · rw [em _ _ (by unfold Srh; omega), ee _ _ (by omega)]
        exact C.2.2.1.1
      · rw [em _ _ (by unfold Srh; omega), ee _ _ (by omega)]
        exact C.2.2.2.2.1 i i0 i1
      · refine (Kp.of ee (fun x k q => Or.inr (Or.inl (sys_12 (by omega) (by omega))))).trans (Kp.of em (fun x k q => ?_))
        rcases q with (q | ⟨q, q' | q'⟩) | q
        · rw [q]
          exact Or.inl rfl
        · rw [q, q']
          exact Or.inl rfl
        · rw [q, q']
          exact Or.inl rfl
        · exact Or.inr (Or.inl (sysBm (by omega) (by omega)))
    have mid : ∀ h6, Bm N (bpt b (up b (up b a)) f t1) h6 → Ef (fun x _ => 746 ≤ x ∧ x ≤ 748) h5 h6 → Tm E 297 (a_bl 297 32) [.ref 704, .int (J a), .int (J f), .int (J u), .int (J v), .int (J (up b a)), .int (J (up b (up b a))), .int (J 1), .int (J t0), .int (J t1), .int (J t2), .int (J t3), v12, v13, v14, v15] [] h6 hr n (fun q => q.1 = some (.int (J t0)) ∧ Po (fun h' => Cp12 h' hr) 12 12 h hr n q.2.1 q.2.2.1 q.2.2.2) := fun h6 M6 e6 => by
      rw [k297_32]
      rcases (show up b a = -1 ∨ 0 ≤ up b a by omega) with y | y
      · have l := last h6 (by rw [y]; rw [y] at M6; exact M6) e6
        simp +decide (maxSteps := 4000000) (disch := omega) only [k297_0, k297_1, k297_2, k297_3, k297_4, k297_6, k297_7, k297_8, k297_9, k297_10, k297_11, k297_12, k297_13, k297_14, k297_15, k297_17, k297_18, k297_19, k297_20, k297_21, k297_23, k297_24, k297_25, k297_27, k297_28, k297_29, k297_30, k297_31, k297_32, k297_r, k297_s, F_al0, F_il1, J_ifeq, F_il2, F_il3, T_I, F_il4, J_ifne, T_ft, T_ret, T_getR, X_iald, F_is5i, F_is5r, F_is5m, F_il5, J_ifge, T_goto, F_is6i, F_is6r, F_is6m, F_is7i, F_is7r, F_is7m, F_is8i, F_is8r, F_is8m, F_il8, T_icge, J_icne, F_il6, F_is9i, F_is9r, F_is9m, F_il7, F_il9, J_iflt, F_inc8i, F_inc8r, F_inc8m, F_is10i, F_is10r, F_is10m, F_is11i, F_is11r, F_is11m, F_is12i, F_is12r, F_is12m, F_il12, T_icgt, T_iast, F_is13i, F_is13r, F_is13m, F_il13, F_is14i, F_is14r, F_is14m, F_il14, T_getI, T_sub, T_mul, T_add, F_is15i, F_is15r, F_is15m, F_il15, T_iclt, F_inc14i, F_inc14r, F_inc14m, F_inc13i, F_inc13r, F_inc13m, F_inc12i, F_inc12r, F_inc12m, F_il10, F_il11, c219, c286, c287, c288, c289, c294, c295, ↓s219, ↓s286, ↓s287, FM F, show up b a < 0 by omega, ↓reduceIte, TK, lt_run hn, le43, Int.le_refl, Int.lt_irrefl, Option.some.injEq, exists_eq_left', true_and, and_true, if_true, if_false, decide_eq_false_iff_not, decide_eq_true_eq, Nat.reduceAdd, Nat.reduceLeDiff, Nat.reduceLT, Int.reduceAdd, Int.reduceSub, Int.reduceMul, Int.reduceNeg, not_true_eq_false, not_false_eq_true]
        exact l
      · simp +decide (maxSteps := 4000000) (disch := omega) only [k297_0, k297_1, k297_2, k297_3, k297_4, k297_6, k297_7, k297_8, k297_9, k297_10, k297_11, k297_12, k297_13, k297_14, k297_15, k297_17, k297_18, k297_19, k297_20, k297_21, k297_23, k297_24, k297_25, k297_27, k297_28, k297_29, k297_30, k297_31, k297_32, k297_r, k297_s, F_al0, F_il1, J_ifeq, F_il2, F_il3, T_I, F_il4, J_ifne, T_ft, T_ret, T_getR, X_iald, F_is5i, F_is5r, F_is5m, F_il5, J_ifge, T_goto, F_is6i, F_is6r, F_is6m, F_is7i, F_is7r, F_is7m, F_is8i, F_is8r, F_is8m, F_il8, T_icge, J_icne, F_il6, F_is9i, F_is9r, F_is9m, F_il7, F_il9, J_iflt, F_inc8i, F_inc8r, F_inc8m, F_is10i, F_is10r, F_is10m, F_is11i, F_is11r, F_is11m, F_is12i, F_is12r, F_is12m, F_il12, T_icgt, T_iast, F_is13i, F_is13r, F_is13m, F_il13, F_is14i, F_is14r, F_is14m, F_il14, T_getI, T_sub, T_mul, T_add, F_is15i, F_is15r, F_is15m, F_il15, T_iclt, F_inc14i, F_inc14r, F_inc14m, F_inc13i, F_inc13r, F_inc13m, F_inc12i, F_inc12r, F_inc12m, F_il10, F_il11, c219, c286, c287, c288, c289, c294, c295, ↓s219, ↓s286, ↓s287, FM F, show ¬ up b a < 0 by omega, ↓reduceIte, TK, lt_run hn, le43, Int.le_refl, Int.lt_irrefl, Option.some.injEq, exists_eq_left', true_and, and_true, if_true, if_false, decide_eq_false_iff_not, decide_eq_true_eq, Nat.reduceAdd, Nat.reduceLeDiff, Nat.reduceLT, Int.reduceAdd, Int.reduceSub, Int.reduceMul, Int.reduceNeg, not_true_eq_false, not_false_eq_true]
        refine w289m F hn M6 y r1.1.2.2 g2 (by rw [lm1.1, lm1.2]; exact z4) rm1 (fun h7 M7 e7 => ?_)
        have l := last h7 M7 (e6.trans e7)
        simp +decide (maxSteps := 4000000) (disch := omega) only [k297_0, k297_1, k297_2, k297_3, k297_4, k297_6, k297_7, k297_8, k297_9, k297_10, k297_11, k297_12, k297_13, k297_14, k297_15, k297_17, k297_18, k297_19, k297_20, k297_21, k297_23, k297_24, k297_25, k297_27, k297_28, k297_29, k297_30, k297_31, k297_32, k297_r, k297_s, F_al0, F_il1, J_ifeq, F_il2, F_il3, T_I, F_il4, J_ifne, T_ft, T_ret, T_getR, X_iald, F_is5i, F_is5r, F_is5m, F_il5, J_ifge, T_goto, F_is6i, F_is6r, F_is6m, F_is7i, F_is7r, F_is7m, F_is8i, F_is8r, F_is8m, F_il8, T_icge, J_icne, F_il6, F_is9i, F_is9r, F_is9m, F_il7, F_il9, J_iflt, F_inc8i, F_inc8r, F_inc8m, F_is10i, F_is10r, F_is10m, F_is11i, F_is11r, F_is11m, F_is12i, F_is12r, F_is12m, F_il12, T_icgt, T_iast, F_is13i, F_is13r, F_is13m, F_il13, F_is14i, F_is14r, F_is14m, F_il14, T_getI, T_sub, T_mul, T_add, F_is15i, F_is15r, F_is15m, F_il15, T_iclt, F_inc14i, F_inc14r, F_inc14m, F_inc13i, F_inc13r, F_inc13m, F_inc12i, F_inc12r, F_inc12m, F_il10, F_il11, c219, c286, c287, c288, c289, c294, c295, ↓s219, ↓s286, ↓s287, ↓reduceIte, TK, lt_run hn, le43, Int.le_refl, Int.lt_irrefl, Option.some.injEq, exists_eq_left', true_and, and_true, if_true, if_false, decide_eq_false_iff_not, decide_eq_true_eq, Nat.reduceAdd, Nat.reduceLeDiff, Nat.reduceLT, Int.reduceAdd, Int.reduceSub, Int.reduceMul, Int.reduceNeg, not_true_eq_false, not_false_eq_true]
        exact l
    rw [k297_31]
    rcases (show up b (up b a) = -1 ∨ 0 ≤ up b (up b a) by omega) with y | y
    · have l := mid h5 (by rw [y]; exact M5) Ef.refl
      simp +decide (maxSteps := 4000000) (disch := omega) only [k297_0, k297_1, k297_2, k297_3, k297_4, k297_6, k297_7, k297_8, k297_9, k297_10, k297_11, k297_12, k297_13, k297_14, k297_15, k297_17, k297_18, k297_19, k297_20, k297_21, k297_23, k297_24, k297_25, k297_27, k297_28, k297_29, k297_30, k297_31, k297_33, k297_r, k297_s, F_al0, F_il1, J_ifeq, F_il2, F_il3, T_I, F_il4, J_ifne, T_ft, T_ret, T_getR, X_iald, F_is5i, F_is5r, F_is5m, F_il5, J_ifge, T_goto, F_is6i, F_is6r, F_is6m, F_is7i, F_is7r, F_is7m, F_is8i, F_is8r, F_is8m, F_il8, T_icge, J_icne, F_il6, F_is9i, F_is9r, F_is9m, F_il7, F_il9, J_iflt, F_inc8i, F_inc8r, F_inc8m, F_is10i, F_is10r, F_is10m, F_is11i, F_is11r, F_is11m, F_is12i, F_is12r, F_is12m, F_il12, T_icgt, T_iast, F_is13i, F_is13r, F_is13m, F_il13, F_is14i, F_is14r, F_is14m, F_il14, T_getI, T_sub, T_mul, T_add, F_is15i, F_is15r, F_is15m, F_il15, T_iclt, F_inc14i, F_inc14r, F_inc14m, F_inc13i, F_inc13r, F_inc13m, F_inc12i, F_inc12r, F_inc12m, F_il10, F_il11, c219, c286, c287, c288, c289, c294, c295, ↓s219, ↓s286, ↓s287, FM F, show up b (up b a) < 0 by omega, ↓reduceIte, TK, lt_run hn, le43, Int.le_refl, Int.lt_irrefl, Option.some.injEq, exists_eq_left', true_and, and_true, if_true, if_false, decide_eq_false_iff_not, decide_eq_true_eq, Nat.reduceAdd, Nat.reduceLeDiff, Nat.reduceLT, Int.reduceAdd, Int.reduceSub, Int.reduceMul, Int.reduceNeg, not_true_eq_false, not_false_eq_true]
      exact l
    · simp +decide (maxSteps := 4000000) (disch := omega) only [k297_0, k297_1, k297_2, k297_3, k297_4, k297_6, k297_7, k297_8, k297_9, k297_10, k297_11, k297_12, k297_13, k297_14, k297_15, k297_17, k297_18, k297_19, k297_20, k297_21, k297_23, k297_24, k297_25, k297_27, k297_28, k297_29, k297_30, k297_31, k297_33, k297_r, k297_s, F_al0, F_il1, J_ifeq, F_il2, F_il3, T_I, F_il4, J_ifne, T_ft, T_ret, T_getR, X_iald, F_is5i, F_is5r, F_is5m, F_il5, J_ifge, T_goto, F_is6i, F_is6r, F_is6m, F_is7i, F_is7r, F_is7m, F_is8i, F_is8r, F_is8m, F_il8, T_icge, J_icne, F_il6, F_is9i, F_is9r, F_is9m, F_il7, F_il9, J_iflt, F_inc8i, F_inc8r, F_inc8m, F_is10i, F_is10r, F_is10m, F_is11i, F_is11r, F_is11m, F_is12i, F_is12r, F_is12m, F_il12, T_icgt, T_iast, F_is13i, F_is13r, F_is13m, F_il13, F_is14i, F_is14r, F_is14m, F_il14, T_getI, T_sub, T_mul, T_add, F_is15i, F_is15r, F_is15m, F_il15, T_iclt, F_inc14i, F_inc14r, F_inc14m, F_inc13i, F_inc13r, F_inc13m, F_inc12i, F_inc12r, F_inc12m, F_il10, F_il11, c219, c286, c287, c288, c289, c294, c295, ↓s219, ↓s286, ↓s287, FM F, show ¬ up b (up b a) < 0 by omega, ↓reduceIte, TK, lt_run hn, le43, Int.le_refl, Int.lt_irrefl, Option.some.injEq, exists_eq_left', true_and, and_true, if_true, if_false, decide_eq_false_iff_not, decide_eq_true_eq, Nat.reduceAdd, Nat.reduceLeDiff, Nat.reduceLT, Int.reduceAdd, Int.reduceSub, Int.reduceMul, Int.reduceNeg, not_true_eq_false, not_false_eq_true]
      refine w289m F hn M5 y r2.1.2.2 g2 z3 q3 (fun h6 M6 e6 => ?_)
      have l := mid h6 M6 e6
      simp +decide (maxSteps := 4000000) (disch := omega) only [k297_0, k297_1, k297_2, k297_3, k297_4, k297_6, k297_7, k297_8, k297_9, k297_10, k297_11, k297_12, k297_13, k297_14, k297_15, k297_17, k297_18, k297_19, k297_20, k297_21, k297_23, k297_24, k297_25, k297_27, k297_28, k297_29, k297_30, k297_31, k297_33, k297_r, k297_s, F_al0, F_il1, J_ifeq, F_il2, F_il3, T_I, F_il4, J_ifne, T_ft, T_ret, T_getR, X_iald, F_is5i, F_is5r, F_is5m, F_il5, J_ifge, T_goto, F_is6i, F_is6r, F_is6m, F_is7i, F_is7r, F_is7m, F_is8i, F_is8r, F_is8m, F_il8, T_icge, J_icne, F_il6, F_is9i, F_is9r, F_is9m, F_il7, F_il9, J_iflt, F_inc8i, F_inc8r, F_inc8m, F_is10i, F_is10r, F_is10m, F_is11i, F_is11r, F_is11m, F_is12i, F_is12r, F_is12m, F_il12, T_icgt, T_iast, F_is13i, F_is13r, F_is13m, F_il13, F_is14i, F_is14r, F_is14m, F_il14, T_getI, T_sub, T_mul, T_add, F_is15i, F_is15r, F_is15m, F_il15, T_iclt, F_inc14i, F_inc14r, F_inc14m, F_inc13i, F_inc13r, F_inc13m, F_inc12i, F_inc12r, F_inc12m, F_il10, F_il11, c219, c286, c287, c288, c289, c294, c295, ↓s219, ↓s286, ↓s287, ↓reduceIte, TK, lt_run hn, le43, Int.le_refl, Int.lt_irrefl, Option.some.injEq, exists_eq_left', true_and, and_true, if_true, if_false, decide_eq_false_iff_not, decide_eq_true_eq, Nat.reduceAdd, Nat.reduceLeDiff, Nat.reduceLT, Int.reduceAdd, Int.reduceSub, Int.reduceMul, Int.reduceNeg, not_true_eq_false, not_false_eq_true]
      exact l
  rcases (show up b (up b a) = -1 ∨ 0 ≤ up b (up b a) by omega) with y | y
  · have l := SS4 a_mk a_mk a_mk _ fin
    rw [(b0 _ y).1] at l
    simp +decide (maxSteps := 4000000) (disch := omega) only [k297_0, k297_1, k297_2, k297_3, k297_4, k297_6, k297_7, k297_8, k297_9, k297_10, k297_11, k297_12, k297_13, k297_14, k297_15, k297_17, k297_18, k297_19, k297_20, k297_21, k297_23, k297_24, k297_25, k297_27, k297_28, k297_29, k297_30, k297_31, k297_32, k297_33, k297_r, k297_s, F_al0, F_il1, J_ifeq, F_il2, F_il3, T_I, F_il4, J_ifne, T_ft, T_ret, T_getR, X_iald, F_is5i, F_is5r, F_is5m, F_il5, J_ifge, T_goto, F_is6i, F_is6r, F_is6m, F_is7i, F_is7r, F_is7m, F_is8i, F_is8r, F_is8m, F_il8, T_icge, J_icne, F_il6, F_is9i, F_is9r, F_is9m, F_il7, F_il9, J_iflt, F_inc8i, F_inc8r, F_inc8m, F_is10i, F_is10r, F_is10m, F_is11i, F_is11r, F_is11m, F_is12i, F_is12r, F_is12m, F_il12, T_icgt, T_iast, F_is13i, F_is13r, F_is13m, F_il13, F_is14i, F_is14r, F_is14m, F_il14, T_getI, T_sub, T_mul, T_add, F_is15i, F_is15r, F_is15m, F_il15, T_iclt, F_inc14i, F_inc14r, F_inc14m, F_inc13i, F_inc13r, F_inc13m, F_inc12i, F_inc12r, F_inc12m, F_il10, F_il11, c219, c286, c287, c288, c289, c294, c295, ↓s219, ↓s286, ↓s287, FM F, show ¬ 0 ≤ up b (up b a) by omega, ↓reduceIte, TK, lt_run hn, le43, Int.le_refl, Int.lt_irrefl, Option.some.injEq, exists_eq_left', true_and, and_true, if_true, if_false, decide_eq_false_iff_not, decide_eq_true_eq, Nat.reduceAdd, Nat.reduceLeDiff, Nat.reduceLT, Int.reduceAdd, Int.reduceSub, Int.reduceMul, Int.reduceNeg, not_true_eq_false, not_false_eq_true]
    exact l
  · have l := SS4 a_mk a_mk a_mk _ fin
    have d := (M4.2.2.2 _ y r2.1.2.2).1.2.2.1
    have bl : bLo b (up b (up b a)) = (b (up b (up b a))).2.2.1 := if_neg (by omega)
    rw [← bl] at d
    simp +decide (maxSteps := 4000000) (disch := omega) only [k297_0, k297_1, k297_2, k297_3, k297_4, k297_6, k297_7, k297_8, k297_9, k297_10, k297_11, k297_12, k297_13, k297_14, k297_15, k297_17, k297_18, k297_19, k297_20, k297_21, k297_23, k297_24, k297_25, k297_27, k297_28, k297_29, k297_30, k297_31, k297_32, k297_33, k297_r, k297_s, F_al0, F_il1, J_ifeq, F_il2, F_il3, T_I, F_il4, J_ifne, T_ft, T_ret, T_getR, X_iald, F_is5i, F_is5r, F_is5m, F_il5, J_ifge, T_goto, F_is6i, F_is6r, F_is6m, F_is7i, F_is7r, F_is7m, F_is8i, F_is8r, F_is8m, F_il8, T_icge, J_icne, F_il6, F_is9i, F_is9r, F_is9m, F_il7, F_il9, J_iflt, F_inc8i, F_inc8r, F_inc8m, F_is10i, F_is10r, F_is10m, F_is11i, F_is11r, F_is11m, F_is12i, F_is12r, F_is12m, F_il12, T_icgt, T_iast, F_is13i, F_is13r, F_is13m, F_il13, F_is14i, F_is14r, F_is14m, F_il14, T_getI, T_sub, T_mul, T_add, F_is15i, F_is15r, F_is15m, F_il15, T_iclt, F_inc14i, F_inc14r, F_inc14m, F_inc13i, F_inc13r, F_inc13m, F_inc12i, F_inc12r, F_inc12m, F_il10, F_il11, c219, c286, c287, c288, c289, c294, c295, ↓s219, ↓s286, ↓s287, FM F, d, y, ln_744, ↓reduceIte, TK, lt_run hn, le43, Int.le_refl, Int.lt_irrefl, Option.some.injEq, exists_eq_left', true_and, and_true, if_true, if_false, decide_eq_false_iff_not, decide_eq_true_eq, Nat.reduceAdd, Nat.reduceLeDiff, Nat.reduceLT, Int.reduceAdd, Int.reduceSub, Int.reduceMul, Int.reduceNeg, not_true_eq_false, not_false_eq_true]
    exact l
end RY
