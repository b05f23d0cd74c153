/-! reach -/
def Srh (a k : Nat) : Prop := a = 749 ∨ (a = 704 ∧ (k = 61 ∨ k = 62))
section RX
variable {E : AEn} {h h' : AHi} {hr : AHr} {n : Nat} {Q : ARs → Prop} {N : Int} {b : Int → Bn} {f a : Int}
theorem Bm.ef {S : Nat → Nat → Prop} (C : Bm N b h) (e : Ef S h h') (hs : ∀ x k, 742 ≤ x → x ≤ 748 → ¬ S x k) (hs2 : ¬ S 704 50) : Bm N b h' := ⟨C.1, C.2.1, by rw [e _ _ hs2]; exact C.2.2.1, fun i i0 i1 => (C.2.2.2 i i0 i1).ef e hs⟩
theorem z297o (F : FH hr) (hn : 775 ≤ n) (C : Bm N b h) (hf : 0 ≤ f ∧ f ≤ 119) {a x y mid top k m : Int} {r : Bool} (hk : 0 ≤ k ∧ k < 3) (m0 : -1 ≤ m) (m1 : m < N) (v9 v10 v11 v12 v13 v14 v15 : Value)
    (ih : ∀ (r' : Bool) (v9 : Value), (r' = true ↔ r = true ∧ rmk b f m) → Tm E 297 (a_bl 297 5) [.ref 704, .int (J a), .int (J f), .int (J x), .int (J y), .int (J mid), .int (J top), .int (Bz r'), .int (J (k + 1)), v9, v10, v11, v12, v13, v14, v15] [] h hr n Q) :
    Tm E 297 (a_bl 297 8) [.ref 704, .int (J a), .int (J f), .int (J x), .int (J y), .int (J mid), .int (J top), .int (Bz r), .int (J k), v9, v10, v11, v12, v13, v14, v15] [.int (J m)] h hr n Q := by
  have hN := C.1
  have iT := ih true (.int (J m))
  have iF := ih false (.int (J m))
  rw [Bz_t] at iT
  rw [Bz_f] at iF
  cases r with
  | false =>
    rw [k297_8]
    simp +decide (maxSteps := 4000000) (disch := omega) only [k297_0, k297_1, k297_2, k297_3, k297_4, k297_6, k297_7, k297_8, k297_9, k297_10, k297_11, k297_12, k297_13, k297_14, k297_15, k297_17, k297_18, k297_19, k297_20, k297_21, k297_23, k297_24, k297_25, k297_27, k297_28, k297_29, k297_30, k297_31, k297_32, k297_33, k297_r, k297_s, F_al0, F_il1, J_ifeq, F_il2, F_il3, T_I, F_il4, J_ifne, T_ft, T_ret, T_getR, X_iald, F_is5i, F_is5r, F_is5m, F_il5, J_ifge, T_goto, F_is6i, F_is6r, F_is6m, F_is7i, F_is7r, F_is7m, F_is8i, F_is8r, F_is8m, F_il8, T_icge, J_icne, F_il6, F_is9i, F_is9r, F_is9m, F_il7, F_il9, J_iflt, F_inc8i, F_inc8r, F_inc8m, F_is10i, F_is10r, F_is10m, F_is11i, F_is11r, F_is11m, F_is12i, F_is12r, F_is12m, F_il12, T_icgt, T_iast, F_is13i, F_is13r, F_is13m, F_il13, F_is14i, F_is14r, F_is14m, F_il14, T_getI, T_sub, T_mul, T_add, F_is15i, F_is15r, F_is15m, F_il15, T_iclt, F_inc14i, F_inc14r, F_inc14m, F_inc13i, F_inc13r, F_inc13m, F_inc12i, F_inc12r, F_inc12m, F_il10, F_il11, c219, c286, c287, c288, c289, c294, c295, ↓s219, ↓s286, ↓s287, FM F, Bz_f, ↓reduceIte, TK, lt_run hn, le43, Int.le_refl, Int.lt_irrefl, Option.some.injEq, exists_eq_left', true_and, and_true, if_true, if_false, decide_eq_false_iff_not, decide_eq_true_eq, Nat.reduceAdd, Nat.reduceLeDiff, Nat.reduceLT, Int.reduceAdd, Int.reduceSub, Int.reduceMul, Int.reduceNeg, not_true_eq_false, not_false_eq_true]
    exact iF ⟨fun q => (by cases q), fun q => (by cases q.1)⟩
  | true =>
    rcases (show m = -1 ∨ 0 ≤ m by omega) with rfl | m2
    · rw [k297_8]
      simp +decide (maxSteps := 4000000) (disch := omega) only [k297_0, k297_1, k297_2, k297_3, k297_4, k297_6, k297_7, k297_8, k297_9, k297_10, k297_11, k297_12, k297_13, k297_14, k297_15, k297_17, k297_18, k297_19, k297_20, k297_21, k297_23, k297_24, k297_25, k297_27, k297_28, k297_29, k297_30, k297_31, k297_32, k297_33, k297_r, k297_s, F_al0, F_il1, J_ifeq, F_il2, F_il3, T_I, F_il4, J_ifne, T_ft, T_ret, T_getR, X_iald, F_is5i, F_is5r, F_is5m, F_il5, J_ifge, T_goto, F_is6i, F_is6r, F_is6m, F_is7i, F_is7r, F_is7m, F_is8i, F_is8r, F_is8m, F_il8, T_icge, J_icne, F_il6, F_is9i, F_is9r, F_is9m, F_il7, F_il9, J_iflt, F_inc8i, F_inc8r, F_inc8m, F_is10i, F_is10r, F_is10m, F_is11i, F_is11r, F_is11m, F_is12i, F_is12r, F_is12m, F_il12, T_icgt, T_iast, F_is13i, F_is13r, F_is13m, F_il13, F_is14i, F_is14r, F_is14m, F_il14, T_getI, T_sub, T_mul, T_add, F_is15i, F_is15r, F_is15m, F_il15, T_iclt, F_inc14i, F_inc14r, F_inc14m, F_inc13i, F_inc13r, F_inc13m, F_inc12i, F_inc12r, F_inc12m, F_il10, F_il11, c219, c286, c287, c288, c289, c294, c295, ↓s219, ↓s286, ↓s287, FM F, Bz_t, ↓reduceIte, TK, lt_run hn, le43, Int.le_refl, Int.lt_irrefl, Option.some.injEq, exists_eq_left', true_and, and_true, if_true, if_false, decide_eq_false_iff_not, decide_eq_true_eq, Nat.reduceAdd, Nat.reduceLeDiff, Nat.reduceLT, Int.reduceAdd, Int.reduceSub, Int.reduceMul, Int.reduceNeg, not_true_eq_false, not_false_eq_true]
      exact iT ⟨fun _ => ⟨rfl, Or.inl rfl⟩, fun _ => rfl⟩
    · obtain ⟨⟨d1, d2, d3, d4, d5⟩, d6⟩ := C.2.2.2 m m2 m1
      have rr := C.2.1 m m2 m1
      have e0 := rr.2.2.2.2.1
      have rk := rr.2.2.2.1.1
      rw [k297_8]
      simp +decide (maxSteps := 4000000) (disch := omega) only [k297_0, k297_1, k297_2, k297_3, k297_4, k297_6, k297_7, k297_8, k297_9, k297_10, k297_11, k297_12, k297_13, k297_14, k297_15, k297_17, k297_18, k297_19, k297_20, k297_21, k297_23, k297_24, k297_25, k297_27, k297_28, k297_29, k297_30, k297_31, k297_32, k297_33, k297_r, k297_s, F_al0, F_il1, J_ifeq, F_il2, F_il3, T_I, F_il4, J_ifne, T_ft, T_ret, T_getR, X_iald, F_is5i, F_is5r, F_is5m, F_il5, J_ifge, T_goto, F_is6i, F_is6r, F_is6m, F_is7i, F_is7r, F_is7m, F_is8i, F_is8r, F_is8m, F_il8, T_icge, J_icne, F_il6, F_is9i, F_is9r, F_is9m, F_il7, F_il9, J_iflt, F_inc8i, F_inc8r, F_inc8m, F_is10i, F_is10r, F_is10m, F_is11i, F_is11r, F_is11m, F_is12i, F_is12r, F_is12m, F_il12, T_icgt, T_iast, F_is13i, F_is13r, F_is13m, F_il13, F_is14i, F_is14r, F_is14m, F_il14, T_getI, T_sub, T_mul, T_add, F_is15i, F_is15r, F_is15m, F_il15, T_iclt, F_inc14i, F_inc14r, F_inc14m, F_inc13i, F_inc13r, F_inc13m, F_inc12i, F_inc12r, F_inc12m, F_il10, F_il11, c219, c286, c287, c288, c289, c294, c295, ↓s219, ↓s286, ↓s287, FM F, Bz_t, show ¬ m < 0 by omega, ↓reduceIte, TK, lt_run hn, le43, Int.le_refl, Int.lt_irrefl, Option.some.injEq, exists_eq_left', true_and, and_true, if_true, if_false, decide_eq_false_iff_not, decide_eq_true_eq, Nat.reduceAdd, Nat.reduceLeDiff, Nat.reduceLT, Int.reduceAdd, Int.reduceSub, Int.reduceMul, Int.reduceNeg, not_true_eq_false, not_false_eq_true]
      refine w288 F hn (by omega) rr.2.2.2.1 rr.2.2.2.2 d5 d6 hf (fun q => ?_) (fun j j0 j1 q => ?_)
      · have t := kth_f rr.2.2.2.2 rr.2.2.2.1 q
        by_cases g : (b m).2.2.2.2.2.1 < 6
        · simp +decide (maxSteps := 4000000) (disch := omega) only [k297_0, k297_1, k297_2, k297_3, k297_4, k297_6, k297_7, k297_8, k297_9, k297_10, k297_11, k297_12, k297_13, k297_14, k297_15, k297_17, k297_18, k297_19, k297_20, k297_21, k297_23, k297_24, k297_25, k297_27, k297_28, k297_29, k297_30, k297_31, k297_32, k297_33, k297_r, k297_s, F_al0, F_il1, J_ifeq, F_il2, F_il3, T_I, F_il4, J_ifne, T_ft, T_ret, T_getR, X_iald, F_is5i, F_is5r, F_is5m, F_il5, J_ifge, T_goto, F_is6i, F_is6r, F_is6m, F_is7i, F_is7r, F_is7m, F_is8i, F_is8r, F_is8m, F_il8, T_icge, J_icne, F_il6, F_is9i, F_is9r, F_is9m, F_il7, F_il9, J_iflt, F_inc8i, F_inc8r, F_inc8m, F_is10i, F_is10r, F_is10m, F_is11i, F_is11r, F_is11m, F_is12i, F_is12r, F_is12m, F_il12, T_icgt, T_iast, F_is13i, F_is13r, F_is13m, F_il13, F_is14i, F_is14r, F_is14m, F_il14, T_getI, T_sub, T_mul, T_add, F_is15i, F_is15r, F_is15m, F_il15, T_iclt, F_inc14i, F_inc14r, F_inc14m, F_inc13i, F_inc13r, F_inc13m, F_inc12i, F_inc12r, F_inc12m, F_il10, F_il11, c219, c286, c287, c288, c289, c294, c295, ↓s219, ↓s286, ↓s287, FM F, d5, ln_746, show ¬ 6 ≤ (b m).2.2.2.2.2.1 by omega, ↓reduceIte, TK, lt_run hn, le43, Int.le_refl, Int.lt_irrefl, Option.some.injEq, exists_eq_left', true_and, and_true, if_true, if_false, decide_eq_false_iff_not, decide_eq_true_eq, Nat.reduceAdd, Nat.reduceLeDiff, Nat.reduceLT, Int.reduceAdd, Int.reduceSub, Int.reduceMul, Int.reduceNeg, not_true_eq_false, not_false_eq_true]
          exact iT ⟨fun _ => ⟨rfl, Or.inr (Or.inl (by omega))⟩, fun _ => rfl⟩
        · simp +decide (maxSteps := 4000000) (disch := omega) only [k297_0, k297_1, k297_2, k297_3, k297_4, k297_6, k297_7, k297_8, k297_9, k297_10, k297_11, k297_12, k297_13, k297_14, k297_15, k297_17, k297_18, k297_19, k297_20, k297_21, k297_23, k297_24, k297_25, k297_27, k297_28, k297_29, k297_30, k297_31, k297_32, k297_33, k297_r, k297_s, F_al0, F_il1, J_ifeq, F_il2, F_il3, T_I, F_il4, J_ifne, T_ft, T_ret, T_getR, X_iald, F_is5i, F_is5r, F_is5m, F_il5, J_ifge, T_goto, F_is6i, F_is6r, F_is6m, F_is7i, F_is7r, F_is7m, F_is8i, F_is8r, F_is8m, F_il8, T_icge, J_icne, F_il6, F_is9i, F_is9r, F_is9m, F_il7, F_il9, J_iflt, F_inc8i, F_inc8r, F_inc8m, F_is10i, F_is10r, F_is10m, F_is11i, F_is11r, F_is11m, F_is12i, F_is12r, F_is12m, F_il12, T_icgt, T_iast, F_is13i, F_is13r, F_is13m, F_il13, F_is14i, F_is14r, F_is14m, F_il14, T_getI, T_sub, T_mul, T_add, F_is15i, F_is15r, F_is15m, F_il15, T_iclt, F_inc14i, F_inc14r, F_inc14m, F_inc13i, F_inc13r, F_inc13m, F_inc12i, F_inc12r, F_inc12m, F_il10, F_il11, c219, c286, c287, c288, c289, c294, c295, ↓s219, ↓s286, ↓s287, FM F, d5, ln_746, show 6 ≤ (b m).2.2.2.2.2.1 by omega, ↓reduceIte, TK, lt_run hn, le43, Int.le_refl, Int.lt_irrefl, Option.some.injEq, exists_eq_left', true_and, and_true, if_true, if_false, decide_eq_false_iff_not, decide_eq_true_eq, Nat.reduceAdd, Nat.reduceLeDiff, Nat.reduceLT, Int.reduceAdd, Int.reduceSub, Int.reduceMul, Int.reduceNeg, not_true_eq_false, not_false_eq_true]
          refine iF ⟨fun q => (by cases q), fun q => ?_⟩
          rcases q.2 with z | z | z
          · omega
          · omega
          · rw [t] at z
            cases z
      · simp +decide (maxSteps := 4000000) (disch := omega) only [k297_0, k297_1, k297_2, k297_3, k297_4, k297_6, k297_7, k297_8, k297_9, k297_10, k297_11, k297_12, k297_13, k297_14, k297_15, k297_17, k297_18, k297_19, k297_20, k297_21, k297_23, k297_24, k297_25, k297_27, k297_28, k297_29, k297_30, k297_31, k297_32, k297_33, k297_r, k297_s, F_al0, F_il1, J_ifeq, F_il2, F_il3, T_I, F_il4, J_ifne, T_ft, T_ret, T_getR, X_iald, F_is5i, F_is5r, F_is5m, F_il5, J_ifge, T_goto, F_is6i, F_is6r, F_is6m, F_is7i, F_is7r, F_is7m, F_is8i, F_is8r, F_is8m, F_il8, T_icge, J_icne, F_il6, F_is9i, F_is9r, F_is9m, F_il7, F_il9, J_iflt, F_inc8i, F_inc8r, F_inc8m, F_is10i, F_is10r, F_is10m, F_is11i, F_is11r, F_is11m, F_is12i, F_is12r, F_is12m, F_il12, T_icgt, T_iast, F_is13i, F_is13r, F_is13m, F_il13, F_is14i, F_is14r, F_is14m, F_il14, T_getI, T_sub, T_mul, T_add, F_is15i, F_is15r, F_is15m, F_il15, T_iclt, F_inc14i, F_inc14r, F_inc14m, F_inc13i, F_inc13r, F_inc13m, F_inc12i, F_inc12r, F_inc12m, F_il10, F_il11, c219, c286, c287, c288, c289, c294, c295, ↓s219, ↓s286, ↓s287, FM F, show 0 ≤ 6 * m + j by omega, ↓reduceIte, TK, lt_run hn, le43, Int.le_refl, Int.lt_irrefl, Option.some.injEq, exists_eq_left', true_and, and_true, if_true, if_false, decide_eq_false_iff_not, decide_eq_true_eq, Nat.reduceAdd, Nat.reduceLeDiff, Nat.reduceLT, Int.reduceAdd, Int.reduceSub, Int.reduceMul, Int.reduceNeg, not_true_eq_false, not_false_eq_true]
        exact iT ⟨fun _ => ⟨rfl, Or.inr (Or.inr (kth_t rr.2.2.2.2 rr.2.2.2.1 j0 j1 q))⟩, fun _ => rfl⟩
set_option maxHeartbeats 4000000 in
/-- the search of the reference -/
theorem z297s (F : FH hr) (hn : 775 ≤ n) (C : Bm N b h) {A : Int → Int} (a0 : 0 ≤ a) (a1 : a < N) {x y pX pY : Int} (hx : -400 ≤ x ∧ x ≤ 400) (hy : -400 ≤ y ∧ y ≤ 400) (hpX : -400 ≤ pX ∧ pX ≤ 400) (hpY : -400 ≤ pY ∧ pY ≤ 400) (p1 : h 704 51 = J pX) (p2 : h 704 52 = J pY) (hA : ∀ i, 0 ≤ i → i < N → gA h 749 i = J (A i) ∧ 0 ≤ A i ∧ A i ≤ 31) (v7 v13 v14 v15 : Value)
    (k : ∀ h' v12 v13 v14 v15, Ef Srh h h' → Tm E 297 (a_bl 297 31) [.ref 704, .int (J a), .int (J f), .int (J x), .int (J y), .int (J (up b a)), .int (J (up b (up b a))), .int (J 1), .int (J (rch b A a (x - pX) (y - pY)).1), .int (J (rch b A a (x - pX) (y - pY)).2.1), .int (J (rch b A a (x - pX) (y - pY)).2.2.1), .int (J (rch b A a (x - pX) (y - pY)).2.2.2), v12, v13, v14, v15] [] h' hr n Q) :
    Tm E 297 (a_bl 297 16) [.ref 704, .int (J a), .int (J f), .int (J x), .int (J y), .int (J (up b a)), .int (J (up b (up b a))), .int (J 1), .int (J (-1)), .int (J 0), .int (J 0), .int (J 0), .int (J (bLo b (up b (up b a)))), v13, v14, v15] [] h hr n Q := by
  have R := C.2.1
  have hN := C.1
  have r1 := up_r R (i := a) (by omega) a1
  have r2 := up_r R r1.1.1 r1.1.2.2
  have r3 := up_r R r2.1.1 r2.1.2.2
  have la := bLH R (i := a) (by omega) a1
  have lm := bLH R r1.1.1 r1.1.2.2
  have lt := bLH R r2.1.1 r2.1.2.2
  have u1 := r1.2 a0
  have dd := dst_r R hN.2 a0 a1 A (X := x - pX) (Y := y - pY) (by omega) (by omega)
  have hd0 : ∀ u v w, 0 ≤ dst b A a (x - pX) (y - pY) u v w := fun u v w => (dd u v w).1
  have ee : ∀ (A' : Int → Int) (u v w : Int), (∀ j, 0 ≤ j → j ≤ up b (up b (up b a)) → A' j = A j) → ((0 ≤ up b (up b a) → A' (up b (up b a)) = u) ∧ (up b (up b a) = -1 → u = 0)) → ((0 ≤ up b a → A' (up b a) = v) ∧ (up b a = -1 → v = 0)) → A' a = w → ∀ c, eE b A' c a = exy b A a c u v w := fun A' u v w h0 h1 h2 h3 c => eE_3 R hN.2 a0 a1 h0 h1 h2 h3
  have dfold : ∀ u v w, dst b A a (x - pX) (y - pY) u v w = (exy b A a 8 u v w - (x - pX)) * (exy b A a 8 u v w - (x - pX)) + (exy b A a 0 u v w - (y - pY)) * (exy b A a 0 u v w - (y - pY)) := fun _ _ _ => rfl
  have xr := exy_r R hN.2 a0 a1 A
  have rk0 : Rok (dst b A a (x - pX) (y - pY)) (fun u v w => (0 ≤ u ∧ u ≤ 31) ∧ (0 ≤ v ∧ v ≤ 31) ∧ 0 ≤ w ∧ w ≤ 31) (-1, 0, 0, 0) := Or.inl ⟨rfl, rfl, rfl, rfl⟩
  have bm : ∀ i, 0 ≤ i → i < N → ∀ h', Ef Srh h h' → gA h' 744 i = J (bLo b i) ∧ gA h' 745 i = J (bHi b i) := fun i i0 i1 h' e => by
    have d := (C.2.2.2 i i0 i1).1
    unfold bLo bHi
    rw [if_neg (by omega), if_neg (by omega), e.g (by unfold Srh; omega), e.g (by unfold Srh; omega)]
    exact ⟨d.2.2.1, d.2.2.2.1⟩
  have b0 : ∀ i, i = -1 → bLo b i = 0 ∧ bHi b i = 0 := fun i e => by rw [e]; exact ⟨rfl, rfl⟩
  unfold rch at k
  generalize dst b A a (x - pX) (y - pY) = ds at *
  generalize up b (up b (up b a)) = fx at *
  generalize up b (up b a) = top at *
  generalize up b a = mid at *
  refine T_for (σ := Rs × Value × Value × Value) (fun u t => [.ref 704, .int (J a), .int (J f), .int (J x), .int (J y), .int (J mid), .int (J top), .int (J 1), .int (J t.1.1), .int (J t.1.2.1), .int (J t.1.2.2.1), .int (J t.1.2.2.2), .int (J u), t.2.1, t.2.2.1, t.2.2.2]) (fun u t h' => (Ef Srh h h' ∧ ∀ i, 0 ≤ i → i < N → i ≠ top → i ≠ mid → i ≠ a → gA h' 749 i = J (A i)) ∧ t.1 = rcu ds (bLo b top) (bLo b mid) (bHi b mid) (bLo b a) (bHi b a) (-1, 0, 0, 0) (u - bLo b top).toNat) (bLo b top) (bHi b top + 1) ?_ ?_ (bLo b top) ((-1, 0, 0, 0), v13, v14, v15) h (by omega) (by omega) ⟨⟨Ef.refl, fun i i0 i1 _ _ _ => (hA i i0 i1).1⟩, by rw [show bLo b top - bLo b top = 0 by omega]; rfl⟩
  · rintro u ⟨t, v13, v14, v15⟩ h1 u0 u1' ⟨⟨e1, A1⟩, ht⟩ ih
    dsimp only at ht ⊢
    have us := rcu_s (d := ds) (lv := bLo b mid) (hv := bHi b mid) (lw := bLo b a) (hw := bHi b a) (t := (-1, 0, 0, 0)) u0
    have tk := (rcu_k (lo := bLo b top) hd0 rk0 lm.2.1 la.2.1 (u - bLo b top).toNat (fun x y z q1 q2 q3 q4 q5 q6 => by omega)).1
    rw [← ht] at tk us
    have go : ∀ h2, (Ef Srh h h2 ∧ (∀ i, 0 ≤ i → i < N → i ≠ top → i ≠ mid → i ≠ a → gA h2 749 i = J (A i)) ∧ (0 ≤ top → gA h2 749 top = J u)) → Tm E 297 (a_bl 297 22) [.ref 704, .int (J a), .int (J f), .int (J x), .int (J y), .int (J mid), .int (J top), .int (J 1), .int (J t.1), .int (J t.2.1), .int (J t.2.2.1), .int (J t.2.2.2), .int (J u), .int (J (bLo b mid)), v14, v15] [] h2 hr n Q := fun h2 H2 => by
      refine T_for (σ := Rs × Value × Value) (fun v t => [.ref 704, .int (J a), .int (J f), .int (J x), .int (J y), .int (J mid), .int (J top), .int (J 1), .int (J t.1.1), .int (J t.1.2.1), .int (J t.1.2.2.1), .int (J t.1.2.2.2), .int (J u), .int (J v), t.2.1, t.2.2]) (fun v t' h' => (Ef Srh h h' ∧ (∀ i, 0 ≤ i → i < N → i ≠ top → i ≠ mid → i ≠ a → gA h' 749 i = J (A i)) ∧ (0 ≤ top → gA h' 749 top = J u)) ∧ t'.1 = rcv ds u (bLo b mid) (bLo b a) (bHi b a) t (v - bLo b mid).toNat) (bLo b mid) (bHi b mid + 1) ?_ ?_ (bLo b mid) (t, v14, v15) h2 (by omega) (by omega) ⟨H2, by rw [show bLo b mid - bLo b mid = 0 by omega]; rfl⟩
      · rintro v ⟨t2, v14, v15⟩ h3 v0 v1 ⟨⟨e3, A3, T3⟩, ht2⟩ ih2
        dsimp only at ht2 ⊢
        have vs := rcv_s (d := ds) (u := u) (lw := bLo b a) (hw := bHi b a) (t := t) v0
        rw [← ht2] at vs
        have tk2 := (rcv_k (u := u) (lo := bLo b mid) hd0 tk la.2.1 (v - bLo b mid).toNat (fun y z q1 q2 q3 q4 => by omega)).1
        rw [← ht2] at tk2
        have go2 : ∀ h4, (Ef Srh h h4 ∧ (∀ i, 0 ≤ i → i < N → i ≠ top → i ≠ mid → i ≠ a → gA h4 749 i = J (A i)) ∧ (0 ≤ top → gA h4 749 top = J u) ∧ (0 ≤ mid → gA h4 749 mid = J v)) → Tm E 297 (a_bl 297 26) [.ref 704, .int (J a), .int (J f), .int (J x), .int (J y), .int (J mid), .int (J top), .int (J 1), .int (J t2.1), .int (J t2.2.1), .int (J t2.2.2.1), .int (J t2.2.2.2), .int (J u), .int (J v), .int (J (bLo b a)), v15] [] h4 hr n Q := fun h4 H4 => by
          refine T_for (σ := Rs × Value) (fun w t => [.ref 704, .int (J a), .int (J f), .int (J x), .int (J y), .int (J mid), .int (J top), .int (J 1), .int (J t.1.1), .int (J t.1.2.1), .int (J t.1.2.2.1), .int (J t.1.2.2.2), .int (J u), .int (J v), .int (J w), t.2]) (fun w t' h' => (Ef Srh h h' ∧ (∀ i, 0 ≤ i → i < N → i ≠ top → i ≠ mid → i ≠ a → gA h' 749 i = J (A i)) ∧ (0 ≤ top → gA h' 749 top = J u) ∧ (0 ≤ mid → gA h' 749 mid = J v)) ∧ t'.1 = rcw ds u v (bLo b a) t2 (w - bLo b a).toNat) (bLo b a) (bHi b a + 1) ?_ ?_ (bLo b a) (t2, v15) h4 (by omega) (by omega) ⟨H4, by rw [show bLo b a - bLo b a = 0 by omega]; rfl⟩
          · rintro w ⟨t3, v15⟩ h5 w0 w1 ⟨⟨e5, A5, T5, M5⟩, ht3⟩ ih3
            dsimp only at ht3 ⊢
            have ws := rcw_s (d := ds) (u := u) (v := v) (t := t2) w0
            rw [← ht3] at ws
            have tk3 := (rcw_k (u := u) (v := v) (lo := bLo b a) hd0 tk2 (w - bLo b a).toNat (fun z q1 q2 => by omega)).1
            rw [← ht3] at tk3
            have d1 := dfold u v w
            have d2 := dd u v w
            have ba := (bm a a0 a1 h5 e5).2
            have e6 : Ef Srh h (sA h5 749 a (J w)) := e5.sA (Or.inl rfl)
            have C6 := C.ef e6 (fun x k h1 h2 q => by unfold Srh at q; omega) (by unfold Srh; omega)
            have ex := ee (fun i => if i = a then w else if i = mid then v else if i = top then u else A i) u v w (fun j j0 j1 => by
              rw [if_neg (by omega), if_neg (by omega), if_neg (by omega)]) ⟨fun q => by
              rw [if_neg (by omega), if_neg (by omega), if_pos rfl], fun q => by have := b0 top q; omega⟩ ⟨fun q => by
              rw [if_neg (by omega), if_pos rfl], fun q => by have := b0 mid q; omega⟩ (if_pos rfl)
            have xr8 := xr 8 u v w
            have xr0 := xr 0 u v w
            rw [k297_26]
            simp +decide (maxSteps := 4000000) (disch := omega) only [k297_0, k297_1, k297_2, k297_3, k297_4, k297_6, k297_7, k297_8, k297_9, k297_10, k297_11, k297_12, k297_13, k297_14, k297_15, k297_17, k297_18, k297_19, k297_20, k297_21, k297_23, k297_24, k297_25, k297_27, k297_28, k297_29, k297_30, k297_31, k297_32, k297_33, k297_r, k297_s, F_al0, F_il1, J_ifeq, F_il2, F_il3, T_I, F_il4, J_ifne, T_ft, T_ret, T_getR, X_iald, F_is5i, F_is5r, F_is5m, F_il5, J_ifge, T_goto, F_is6i, F_is6r, F_is6m, F_is7i, F_is7r, F_is7m, F_is8i, F_is8r, F_is8m, F_il8, T_icge, J_icne, F_il6, F_is9i, F_is9r, F_is9m, F_il7, F_il9, J_iflt, F_inc8i, F_inc8r, F_inc8m, F_is10i, F_is10r, F_is10m, F_is11i, F_is11r, F_is11m, F_is12i, F_is12r, F_is12m, F_il12, T_icgt, T_iast, F_is13i, F_is13r, F_is13m, F_il13, F_is14i, F_is14r, F_is14m, F_il14, T_getI, T_sub, T_mul, T_add, F_is15i, F_is15r, F_is15m, F_il15, T_iclt, F_inc14i, F_inc14r, F_inc14m, F_inc13i, F_inc13r, F_inc13m, F_inc12i, F_inc12r, F_inc12m, F_il10, F_il11, c219, c286, c287, c288, c289, c294, c295, ↓s219, ↓s286, ↓s287, FM F, ba, ln_745, ln_749, show ¬ bHi b a < w by omega, ↓reduceIte, TK, lt_run hn, le43, Int.le_refl, Int.lt_irrefl, Option.some.injEq, exists_eq_left', true_and, and_true, if_true, if_false, decide_eq_false_iff_not, decide_eq_true_eq, Nat.reduceAdd, Nat.reduceLeDiff, Nat.reduceLT, Int.reduceAdd, Int.reduceSub, Int.reduceMul, Int.reduceNeg, not_true_eq_false, not_false_eq_true]
            refine w295m F hn C6 (A := fun i => if i = a then w else if i = mid then v else if i = top then u else A i) (fun i i0 i1 => ?_) hpX hpY (by rw [e6 _ _ (by unfold Srh; omega)]; exact p1) (by rw [e6 _ _ (by unfold Srh; omega)]; exact p2) a0 a1 ?_
            · by_cases z1 : i = a
              · rw [if_pos z1, z1, gs_s]
                exact ⟨rfl, by omega⟩
              · rw [if_neg z1, gs_k a0 i0 z1]
                by_cases z2 : i = mid
                · rw [if_pos z2, z2]
                  exact ⟨M5 (by omega), by omega⟩
                · rw [if_neg z2]
                  by_cases z3 : i = top
                  · rw [if_pos z3, z3]
                    exact ⟨T5 (by omega), by omega⟩
                  · rw [if_neg z3]
                    exact ⟨A5 i i0 i1 z3 z2 z1, (hA i i0 i1).2⟩
            · rw [ex 8, ex 0]
              have nx : pX + exy b A a 8 u v w - x = exy b A a 8 u v w - (x - pX) := by omega
              have ny : pY + exy b A a 0 u v w - y = exy b A a 0 u v w - (y - pY) := by omega
              have g61 : hI (hI (sA h5 749 a (J w)) 704 61 (J (pX + exy b A a 8 u v w))) 704 62 (J (pY + exy b A a 0 u v w)) 704 61 = J (pX + exy b A a 8 u v w) := by rw [hI_k (by decide), hI_s]
              have g62 : hI (hI (sA h5 749 a (J w)) 704 61 (J (pX + exy b A a 8 u v w))) 704 62 (J (pY + exy b A a 0 u v w)) 704 62 = J (pY + exy b A a 0 u v w) := hI_s
              have H7 : (Ef Srh h (hI (hI (sA h5 749 a (J w)) 704 61 (J (pX + exy b A a 8 u v w))) 704 62 (J (pY + exy b A a 0 u v w))) ∧ (∀ i, 0 ≤ i → i < N → i ≠ top → i ≠ mid → i ≠ a → gA (hI (hI (sA h5 749 a (J w)) 704 61 (J (pX + exy b A a 8 u v w))) 704 62 (J (pY + exy b A a 0 u v w))) 749 i = J (A i)) ∧ (0 ≤ top → gA (hI (hI (sA h5 749 a (J w)) 704 61 (J (pX + exy b A a 8 u v w))) 704 62 (J (pY + exy b A a 0 u v w))) 749 top = J u) ∧ (0 ≤ mid → gA (hI (hI (sA h5 749 a (J w)) 704 61 (J (pX + exy b A a 8 u v w))) 704 62 (J (pY + exy b A a 0 u v w))) 749 mid = J v)) := by
                refine ⟨Ef.hI (Ef.hI e6 (Or.inr ⟨rfl, Or.inl rfl⟩)) (Or.inr ⟨rfl, Or.inr rfl⟩), fun i i0 i1 i2 i3 i4 => ?_, fun q => ?_, fun q => ?_⟩
                · rw [gA_o (by decide), gA_o (by decide), gs_k a0 i0 i4]
                  exact A5 i i0 i1 i2 i3 i4
                · rw [gA_o (by decide), gA_o (by decide), gs_k a0 q (by omega)]
                  exact T5 q
                · rw [gA_o (by decide), gA_o (by decide), gs_k a0 q (by omega)]
                  exact M5 q
              have t1r : t3.1 = -1 ∨ 0 ≤ t3.1 ∧ t3.1 ≤ 4000000 := by
                rcases tk3 with ⟨z1, _⟩ | ⟨z1, z2, _⟩
                · exact Or.inl z1
                · have := dd t3.2.1 t3.2.2.1 t3.2.2.2
                  omega
              generalize hI (hI (sA h5 749 a (J w)) 704 61 (J (pX + exy b A a 8 u v w))) 704 62 (J (pY + exy b A a 0 u v w)) = h7 at *
              have m1 := mulb (a := exy b A a 8 u v w - (x - pX)) (b := exy b A a 8 u v w - (x - pX)) (A := 1400) (B := 1400) (by omega) (by omega)
              have m2 := mulb (a := exy b A a 0 u v w - (y - pY)) (b := exy b A a 0 u v w - (y - pY)) (A := 1400) (B := 1400) (by omega) (by omega)
              by_cases g : t3.1 < 0 ∨ ds u v w < t3.1
              · have e1 : rst ds t3 u v w = (ds u v w, u, v, w) := if_pos g
                rw [e1] at ws
                by_cases g2 : t3.1 < 0
                · simp +decide (maxSteps := 4000000) (disch := omega) only [k297_0, k297_1, k297_2, k297_3, k297_4, k297_6, k297_7, k297_8, k297_9, k297_10, k297_11, k297_12, k297_13, k297_14, k297_15, k297_17, k297_18, k297_19, k297_20, k297_21, k297_23, k297_24, k297_25, k297_27, k297_28, k297_29, k297_30, k297_31, k297_32, k297_33, k297_r, k297_s, F_al0, F_il1, J_ifeq, F_il2, F_il3, T_I, F_il4, J_ifne, T_ft, T_ret, T_getR, X_iald, F_is5i, F_is5r, F_is5m, F_il5, J_ifge, T_goto, F_is6i, F_is6r, F_is6m, F_is7i, F_is7r, F_is7m, F_is8i, F_is8r, F_is8m, F_il8, T_icge, J_icne, F_il6, F_is9i, F_is9r, F_is9m, F_il7, F_il9, J_iflt, F_inc8i, F_inc8r, F_inc8m, F_is10i, F_is10r, F_is10m, F_is11i, F_is11r, F_is11m, F_is12i, F_is12r, F_is12m, F_il12, T_icgt, T_iast, F_is13i, F_is13r, F_is13m, F_il13, F_is14i, F_is14r, F_is14m, F_il14, T_getI, T_sub, T_mul, T_add, F_is15i, F_is15r, F_is15m, F_il15, T_iclt, F_inc14i, F_inc14r, F_inc14m, F_inc13i, F_inc13r, F_inc13m, F_inc12i, F_inc12r, F_inc12m, F_il10, F_il11, c219, c286, c287, c288, c289, c294, c295, ↓s219, ↓s286, ↓s287, FM F, g61, g62, nx, ny, ← d1, g2, ↓reduceIte, TK, lt_run hn, le43, Int.le_refl, Int.lt_irrefl, Option.some.injEq, exists_eq_left', true_and, and_true, if_true, if_false, decide_eq_false_iff_not, decide_eq_true_eq, Nat.reduceAdd, Nat.reduceLeDiff, Nat.reduceLT, Int.reduceAdd, Int.reduceSub, Int.reduceMul, Int.reduceNeg, not_true_eq_false, not_false_eq_true]
                  exact ih3 ((ds u v w, u, v, w), _) _ ⟨H7, ws.symm⟩
                · simp +decide (maxSteps := 4000000) (disch := omega) only [k297_0, k297_1, k297_2, k297_3, k297_4, k297_6, k297_7, k297_8, k297_9, k297_10, k297_11, k297_12, k297_13, k297_14, k297_15, k297_17, k297_18, k297_19, k297_20, k297_21, k297_23, k297_24, k297_25, k297_27, k297_28, k297_29, k297_30, k297_31, k297_32, k297_33, k297_r, k297_s, F_al0, F_il1, J_ifeq, F_il2, F_il3, T_I, F_il4, J_ifne, T_ft, T_ret, T_getR, X_iald, F_is5i, F_is5r, F_is5m, F_il5, J_ifge, T_goto, F_is6i, F_is6r, F_is6m, F_is7i, F_is7r, F_is7m, F_is8i, F_is8r, F_is8m, F_il8, T_icge, J_icne, F_il6, F_is9i, F_is9r, F_is9m, F_il7, F_il9, J_iflt, F_inc8i, F_inc8r, F_inc8m, F_is10i, F_is10r, F_is10m, F_is11i, F_is11r, F_is11m, F_is12i, F_is12r, F_is12m, F_il12, T_icgt, T_iast, F_is13i, F_is13r, F_is13m, F_il13, F_is14i, F_is14r, F_is14m, F_il14, T_getI, T_sub, T_mul, T_add, F_is15i, F_is15r, F_is15m, F_il15, T_iclt, F_inc14i, F_inc14r, F_inc14m, F_inc13i, F_inc13r, F_inc13m, F_inc12i, F_inc12r, F_inc12m, F_il10, F_il11, c219, c286, c287, c288, c289, c294, c295, ↓s219, ↓s286, ↓s287, FM F, g61, g62, nx, ny, ← d1, g2, show ds u v w < t3.1 by omega, ↓reduceIte, TK, lt_run hn, le43, Int.le_refl, Int.lt_irrefl, Option.some.injEq, exists_eq_left', true_and, and_true, if_true, if_false, decide_eq_false_iff_not, decide_eq_true_eq, Nat.reduceAdd, Nat.reduceLeDiff, Nat.reduceLT, Int.reduceAdd, Int.reduceSub, Int.reduceMul, Int.reduceNeg, not_true_eq_false, not_false_eq_true]
                  exact ih3 ((ds u v w, u, v, w), _) _ ⟨H7, ws.symm⟩
              · have e1 : rst ds t3 u v w = t3 := if_neg g
                rw [e1] at ws
                simp +decide (maxSteps := 4000000) (disch := omega) only [k297_0, k297_1, k297_2, k297_3, k297_4, k297_6, k297_7, k297_8, k297_9, k297_10, k297_11, k297_12, k297_13, k297_14, k297_15, k297_17, k297_18, k297_19, k297_20, k297_21, k297_23, k297_24, k297_25, k297_27, k297_28, k297_29, k297_30, k297_31, k297_32, k297_33, k297_r, k297_s, F_al0, F_il1, J_ifeq, F_il2, F_il3, T_I, F_il4, J_ifne, T_ft, T_ret, T_getR, X_iald, F_is5i, F_is5r, F_is5m, F_il5, J_ifge, T_goto, F_is6i, F_is6r, F_is6m, F_is7i, F_is7r, F_is7m, F_is8i, F_is8r, F_is8m, F_il8, T_icge, J_icne, F_il6, F_is9i, F_is9r, F_is9m, F_il7, F_il9, J_iflt, F_inc8i, F_inc8r, F_inc8m, F_is10i, F_is10r, F_is10m, F_is11i, F_is11r, F_is11m, F_is12i, F_is12r, F_is12m, F_il12, T_icgt, T_iast, F_is13i, F_is13r, F_is13m, F_il13, F_is14i, F_is14r, F_is14m, F_il14, T_getI, T_sub, T_mul, T_add, F_is15i, F_is15r, F_is15m, F_il15, T_iclt, F_inc14i, F_inc14r, F_inc14m, F_inc13i, F_inc13r, F_inc13m, F_inc12i, F_inc12r, F_inc12m, F_il10, F_il11, c219, c286, c287, c288, c289, c294, c295, ↓s219, ↓s286, ↓s287, FM F, g61, g62, nx, ny, ← d1, show ¬ t3.1 < 0 by omega, show ¬ ds u v w < t3.1 by omega, ↓reduceIte, TK, lt_run hn, le43, Int.le_refl, Int.lt_irrefl, Option.some.injEq, exists_eq_left', true_and, and_true, if_true, if_false, decide_eq_false_iff_not, decide_eq_true_eq, Nat.reduceAdd, Nat.reduceLeDiff, Nat.reduceLT, Int.reduceAdd, Int.reduceSub, Int.reduceMul, Int.reduceNeg, not_true_eq_false, not_false_eq_true]
                exact ih3 (t3, _) _ ⟨H7, ws.symm⟩
          · rintro ⟨t3, v15⟩ h5 ⟨⟨e5, A5, T5, M5⟩, ht3⟩
            dsimp only at ht3 ⊢
            have ba := (bm a a0 a1 h5 e5).2
            rw [show bHi b a + 1 - bLo b a = bHi b a - bLo b a + 1 by omega, ← vs] at ht3
            rw [k297_26]
            simp +decide (maxSteps := 4000000) (disch := omega) only [k297_0, k297_1, k297_2, k297_3, k297_4, k297_6, k297_7, k297_8, k297_9, k297_10, k297_11, k297_12, k297_13, k297_14, k297_15, k297_17, k297_18, k297_19, k297_20, k297_21, k297_23, k297_24, k297_25, k297_27, k297_28, k297_29, k297_30, k297_31, k297_32, k297_33, k297_r, k297_s, F_al0, F_il1, J_ifeq, F_il2, F_il3, T_I, F_il4, J_ifne, T_ft, T_ret, T_getR, X_iald, F_is5i, F_is5r, F_is5m, F_il5, J_ifge, T_goto, F_is6i, F_is6r, F_is6m, F_is7i, F_is7r, F_is7m, F_is8i, F_is8r, F_is8m, F_il8, T_icge, J_icne, F_il6, F_is9i, F_is9r, F_is9m, F_il7, F_il9, J_iflt, F_inc8i, F_inc8r, F_inc8m, F_is10i, F_is10r, F_is10m, F_is11i, F_is11r, F_is11m, F_is12i, F_is12r, F_is12m, F_il12, T_icgt, T_iast, F_is13i, F_is13r, F_is13m, F_il13, F_is14i, F_is14r, F_is14m, F_il14, T_getI, T_sub, T_mul, T_add, F_is15i, F_is15r, F_is15m, F_il15, T_iclt, F_inc14i, F_inc14r, F_inc14m, F_inc13i, F_inc13r, F_inc13m, F_inc12i, F_inc12r, F_inc12m, F_il10, F_il11, c219, c286, c287, c288, c289, c294, c295, ↓s219, ↓s286, ↓s287, FM F, ba, ln_745, show bHi b a < bHi b a + 1 by omega, ↓reduceIte, TK, lt_run hn, le43, Int.le_refl, Int.lt_irrefl, Option.some.injEq, exists_eq_left', true_and, and_true, if_true, if_false, decide_eq_false_iff_not, decide_eq_true_eq, Nat.reduceAdd, Nat.reduceLeDiff, Nat.reduceLT, Int.reduceAdd, Int.reduceSub, Int.reduceMul, Int.reduceNeg, not_true_eq_false, not_false_eq_true]
            exact ih2 (t3, _, _) _ ⟨⟨e5, A5, T5⟩, ht3⟩
        rcases (show mid = -1 ∨ 0 ≤ mid by omega) with z | z
        · have z2 := b0 mid z
          have ba := (bm a a0 a1 h3 e3).1
          have g2 := go2 h3 ⟨e3, A3, T3, fun q => by omega⟩
          rw [k297_22]
          simp +decide (maxSteps := 4000000) (disch := omega) only [k297_0, k297_1, k297_2, k297_3, k297_4, k297_6, k297_7, k297_8, k297_9, k297_10, k297_11, k297_12, k297_13, k297_14, k297_15, k297_17, k297_18, k297_19, k297_20, k297_21, k297_23, k297_24, k297_25, k297_27, k297_28, k297_29, k297_30, k297_31, k297_32, k297_33, k297_r, k297_s, F_al0, F_il1, J_ifeq, F_il2, F_il3, T_I, F_il4, J_ifne, T_ft, T_ret, T_getR, X_iald, F_is5i, F_is5r, F_is5m, F_il5, J_ifge, T_goto, F_is6i, F_is6r, F_is6m, F_is7i, F_is7r, F_is7m, F_is8i, F_is8r, F_is8m, F_il8, T_icge, J_icne, F_il6, F_is9i, F_is9r, F_is9m, F_il7, F_il9, J_iflt, F_inc8i, F_inc8r, F_inc8m, F_is10i, F_is10r, F_is10m, F_is11i, F_is11r, F_is11m, F_is12i, F_is12r, F_is12m, F_il12, T_icgt, T_iast, F_is13i, F_is13r, F_is13m, F_il13, F_is14i, F_is14r, F_is14m, F_il14, T_getI, T_sub, T_mul, T_add, F_is15i, F_is15r, F_is15m, F_il15, T_iclt, F_inc14i, F_inc14r, F_inc14m, F_inc13i, F_inc13r, F_inc13m, F_inc12i, F_inc12r, F_inc12m, F_il10, F_il11, c219, c286, c287, c288, c289, c294, c295, ↓s219, ↓s286, ↓s287, FM F, ba, ln_744, show mid < 0 by omega, show ¬ 0 ≤ mid by omega, show ¬ 0 < v by omega, ↓reduceIte, TK, lt_run hn, le43, Int.le_refl, Int.lt_irrefl, Option.some.injEq, exists_eq_left', true_and, and_true, if_true, if_false, decide_eq_false_iff_not, decide_eq_true_eq, Nat.reduceAdd, Nat.reduceLeDiff, Nat.reduceLT, Int.reduceAdd, Int.reduceSub, Int.reduceMul, Int.reduceNeg, not_true_eq_false, not_false_eq_true]
          exact g2
        · have bM := (bm mid z r1.1.2.2 h3 e3).2
          have e4 : Ef Srh h (sA h3 749 mid (J v)) := e3.sA (Or.inl rfl)
          have ba := (bm a a0 a1 _ e4).1
          have g2 := go2 (sA h3 749 mid (J v)) ⟨e4, fun i i0 i1 i2 i3 i4 => by rw [gs_k z i0 i3]; exact A3 i i0 i1 i2 i3 i4, fun q => by rw [gs_k z q (by omega)]; exact T3 q, fun _ => gs_s⟩
          rw [k297_22]
          simp +decide (maxSteps := 4000000) (disch := omega) only [k297_0, k297_1, k297_2, k297_3, k297_4, k297_6, k297_7, k297_8, k297_9, k297_10, k297_11, k297_12, k297_13, k297_14, k297_15, k297_17, k297_18, k297_19, k297_20, k297_21, k297_23, k297_24, k297_25, k297_27, k297_28, k297_29, k297_30, k297_31, k297_32, k297_33, k297_r, k297_s, F_al0, F_il1, J_ifeq, F_il2, F_il3, T_I, F_il4, J_ifne, T_ft, T_ret, T_getR, X_iald, F_is5i, F_is5r, F_is5m, F_il5, J_ifge, T_goto, F_is6i, F_is6r, F_is6m, F_is7i, F_is7r, F_is7m, F_is8i, F_is8r, F_is8m, F_il8, T_icge, J_icne, F_il6, F_is9i, F_is9r, F_is9m, F_il7, F_il9, J_iflt, F_inc8i, F_inc8r, F_inc8m, F_is10i, F_is10r, F_is10m, F_is11i, F_is11r, F_is11m, F_is12i, F_is12r, F_is12m, F_il12, T_icgt, T_iast, F_is13i, F_is13r, F_is13m, F_il13, F_is14i, F_is14r, F_is14m, F_il14, T_getI, T_sub, T_mul, T_add, F_is15i, F_is15r, F_is15m, F_il15, T_iclt, F_inc14i, F_inc14r, F_inc14m, F_inc13i, F_inc13r, F_inc13m, F_inc12i, F_inc12r, F_inc12m, F_il10, F_il11, c219, c286, c287, c288, c289, c294, c295, ↓s219, ↓s286, ↓s287, FM F, ba, bM, ln_744, ln_745, ln_749, z, show ¬ mid < 0 by omega, show ¬ bHi b mid < v by omega, ↓reduceIte, TK, lt_run hn, le43, Int.le_refl, Int.lt_irrefl, Option.some.injEq, exists_eq_left', true_and, and_true, if_true, if_false, decide_eq_false_iff_not, decide_eq_true_eq, Nat.reduceAdd, Nat.reduceLeDiff, Nat.reduceLT, Int.reduceAdd, Int.reduceSub, Int.reduceMul, Int.reduceNeg, not_true_eq_false, not_false_eq_true]
          exact g2
      · rintro ⟨t2, v14, v15⟩ h3 ⟨⟨e3, A3, T3⟩, ht2⟩
        dsimp only at ht2 ⊢
        rw [show bHi b mid + 1 - bLo b mid = bHi b mid - bLo b mid + 1 by omega, ← us] at ht2
        rcases (show mid = -1 ∨ 0 ≤ mid by omega) with z | z
        · have z2 := b0 mid z
          rw [z2.2]
          rw [k297_22]
          simp +decide (maxSteps := 4000000) (disch := omega) only [k297_0, k297_1, k297_2, k297_3, k297_4, k297_6, k297_7, k297_8, k297_9, k297_10, k297_11, k297_12, k297_13, k297_14, k297_15, k297_17, k297_18, k297_19, k297_20, k297_21, k297_23, k297_24, k297_25, k297_27, k297_28, k297_29, k297_30, k297_31, k297_32, k297_33, k297_r, k297_s, F_al0, F_il1, J_ifeq, F_il2, F_il3, T_I, F_il4, J_ifne, T_ft, T_ret, T_getR, X_iald, F_is5i, F_is5r, F_is5m, F_il5, J_ifge, T_goto, F_is6i, F_is6r, F_is6m, F_is7i, F_is7r, F_is7m, F_is8i, F_is8r, F_is8m, F_il8, T_icge, J_icne, F_il6, F_is9i, F_is9r, F_is9m, F_il7, F_il9, J_iflt, F_inc8i, F_inc8r, F_inc8m, F_is10i, F_is10r, F_is10m, F_is11i, F_is11r, F_is11m, F_is12i, F_is12r, F_is12m, F_il12, T_icgt, T_iast, F_is13i, F_is13r, F_is13m, F_il13, F_is14i, F_is14r, F_is14m, F_il14, T_getI, T_sub, T_mul, T_add, F_is15i, F_is15r, F_is15m, F_il15, T_iclt, F_inc14i, F_inc14r, F_inc14m, F_inc13i, F_inc13r, F_inc13m, F_inc12i, F_inc12r, F_inc12m, F_il10, F_il11, c219, c286, c287, c288, c289, c294, c295, ↓s219, ↓s286, ↓s287, FM F, show ¬ 0 ≤ mid by omega, ↓reduceIte, TK, lt_run hn, le43, Int.le_refl, Int.lt_irrefl, Option.some.injEq, exists_eq_left', true_and, and_true, if_true, if_false, decide_eq_false_iff_not, decide_eq_true_eq, Nat.reduceAdd, Nat.reduceLeDiff, Nat.reduceLT, Int.reduceAdd, Int.reduceSub, Int.reduceMul, Int.reduceNeg, not_true_eq_false, not_false_eq_true]
          exact ih (t2, _, _, _) _ ⟨⟨e3, A3⟩, ht2⟩
        · have bM := (bm mid z r1.1.2.2 h3 e3).2
          rw [k297_22]
          simp +decide (maxSteps := 4000000) (disch := omega) only [k297_0, k297_1, k297_2, k297_3, k297_4, k297_6, k297_7, k297_8, k297_9, k297_10, k297_11, k297_12, k297_13, k297_14, k297_15, k297_17, k297_18, k297_19, k297_20, k297_21, k297_23, k297_24, k297_25, k297_27, k297_28, k297_29, k297_30, k297_31, k297_32, k297_33, k297_r, k297_s, F_al0, F_il1, J_ifeq, F_il2, F_il3, T_I, F_il4, J_ifne, T_ft, T_ret, T_getR, X_iald, F_is5i, F_is5r, F_is5m, F_il5, J_ifge, T_goto, F_is6i, F_is6r, F_is6m, F_is7i, F_is7r, F_is7m, F_is8i, F_is8r, F_is8m, F_il8, T_icge, J_icne, F_il6, F_is9i, F_is9r, F_is9m, F_il7, F_il9, J_iflt, F_inc8i, F_inc8r, F_inc8m, F_is10i, F_is10r, F_is10m, F_is11i, F_is11r, F_is11m, F_is12i, F_is12r, F_is12m, F_il12, T_icgt, T_iast, F_is13i, F_is13r, F_is13m, F_il13, F_is14i, F_is14r, F_is14m, F_il14, T_getI, T_sub, T_mul, T_add, F_is15i, F_is15r, F_is15m, F_il15, T_iclt, F_inc14i, F_inc14r, F_inc14m, F_inc13i, F_inc13r, F_inc13m, F_inc12i, F_inc12r, F_inc12m, F_il10, F_il11, c219, c286, c287, c288, c289, c294, c295, ↓s219, ↓s286, ↓s287, FM F, bM, ln_745, z, show bHi b mid < bHi b mid + 1 by omega, ↓reduceIte, TK, lt_run hn, le43, Int.le_refl, Int.lt_irrefl, Option.some.injEq, exists_eq_left', true_and, and_true, if_true, if_false, decide_eq_false_iff_not, decide_eq_true_eq, Nat.reduceAdd, Nat.reduceLeDiff, Nat.reduceLT, Int.reduceAdd, Int.reduceSub, Int.reduceMul, Int.reduceNeg, not_true_eq_false, not_false_eq_true]
          exact ih (t2, _, _, _) _ ⟨⟨e3, A3⟩, ht2⟩
    rcases (show top = -1 ∨ 0 ≤ top by omega) with z | z
    · have z2 := b0 top z
      have g1 := go h1 ⟨e1, A1, fun q => by omega⟩
      rcases (show mid = -1 ∨ 0 ≤ mid by omega) with y1 | y1
      · have y2 := b0 mid y1
        rw [y2.1] at g1
        rw [k297_16]
        simp +decide (maxSteps := 4000000) (disch := omega) only [k297_0, k297_1, k297_2, k297_3, k297_4, k297_6, k297_7, k297_8, k297_9, k297_10, k297_11, k297_12, k297_13, k297_14, k297_15, k297_17, k297_18, k297_19, k297_20, k297_21, k297_23, k297_24, k297_25, k297_27, k297_28, k297_29, k297_30, k297_31, k297_32, k297_33, k297_r, k297_s, F_al0, F_il1, J_ifeq, F_il2, F_il3, T_I, F_il4, J_ifne, T_ft, T_ret, T_getR, X_iald, F_is5i, F_is5r, F_is5m, F_il5, J_ifge, T_goto, F_is6i, F_is6r, F_is6m, F_is7i, F_is7r, F_is7m, F_is8i, F_is8r, F_is8m, F_il8, T_icge, J_icne, F_il6, F_is9i, F_is9r, F_is9m, F_il7, F_il9, J_iflt, F_inc8i, F_inc8r, F_inc8m, F_is10i, F_is10r, F_is10m, F_is11i, F_is11r, F_is11m, F_is12i, F_is12r, F_is12m, F_il12, T_icgt, T_iast, F_is13i, F_is13r, F_is13m, F_il13, F_is14i, F_is14r, F_is14m, F_il14, T_getI, T_sub, T_mul, T_add, F_is15i, F_is15r, F_is15m, F_il15, T_iclt, F_inc14i, F_inc14r, F_inc14m, F_inc13i, F_inc13r, F_inc13m, F_inc12i, F_inc12r, F_inc12m, F_il10, F_il11, c219, c286, c287, c288, c289, c294, c295, ↓s219, ↓s286, ↓s287, FM F, show ¬ 0 ≤ top by omega, show top < 0 by omega, show ¬ 0 ≤ mid by omega, show ¬ 0 < u by omega, ↓reduceIte, TK, lt_run hn, le43, Int.le_refl, Int.lt_irrefl, Option.some.injEq, exists_eq_left', true_and, and_true, if_true, if_false, decide_eq_false_iff_not, decide_eq_true_eq, Nat.reduceAdd, Nat.reduceLeDiff, Nat.reduceLT, Int.reduceAdd, Int.reduceSub, Int.reduceMul, Int.reduceNeg, not_true_eq_false, not_false_eq_true]
        exact g1
      · have bM := (bm mid y1 r1.1.2.2 h1 e1).1
        rw [k297_16]
        simp +decide (maxSteps := 4000000) (disch := omega) only [k297_0, k297_1, k297_2, k297_3, k297_4, k297_6, k297_7, k297_8, k297_9, k297_10, k297_11, k297_12, k297_13, k297_14, k297_15, k297_17, k297_18, k297_19, k297_20, k297_21, k297_23, k297_24, k297_25, k297_27, k297_28, k297_29, k297_30, k297_31, k297_32, k297_33, k297_r, k297_s, F_al0, F_il1, J_ifeq, F_il2, F_il3, T_I, F_il4, J_ifne, T_ft, T_ret, T_getR, X_iald, F_is5i, F_is5r, F_is5m, F_il5, J_ifge, T_goto, F_is6i, F_is6r, F_is6m, F_is7i, F_is7r, F_is7m, F_is8i, F_is8r, F_is8m, F_il8, T_icge, J_icne, F_il6, F_is9i, F_is9r, F_is9m, F_il7, F_il9, J_iflt, F_inc8i, F_inc8r, F_inc8m, F_is10i, F_is10r, F_is10m, F_is11i, F_is11r, F_is11m, F_is12i, F_is12r, F_is12m, F_il12, T_icgt, T_iast, F_is13i, F_is13r, F_is13m, F_il13, F_is14i, F_is14r, F_is14m, F_il14, T_getI, T_sub, T_mul, T_add, F_is15i, F_is15r, F_is15m, F_il15, T_iclt, F_inc14i, F_inc14r, F_inc14m, F_inc13i, F_inc13r, F_inc13m, F_inc12i, F_inc12r, F_inc12m, F_il10, F_il11, c219, c286, c287, c288, c289, c294, c295, ↓s219, ↓s286, ↓s287, FM F, bM, ln_744, show ¬ 0 ≤ top by omega, show top < 0 by omega, y1, show ¬ 0 < u by omega, ↓reduceIte, TK, lt_run hn, le43, Int.le_refl, Int.lt_irrefl, Option.some.injEq, exists_eq_left', true_and, and_true, if_true, if_false, decide_eq_false_iff_not, decide_eq_true_eq, Nat.reduceAdd, Nat.reduceLeDiff, Nat.reduceLT, Int.reduceAdd, Int.reduceSub, Int.reduceMul, Int.reduceNeg, not_true_eq_false, not_false_eq_true]
        exact g1
    · have bT := (bm top z r2.1.2.2 h1 e1).2
      have e4 : Ef Srh h (sA h1 749 top (J u)) := e1.sA (Or.inl rfl)
      have g1 := go (sA h1 749 top (J u)) ⟨e4, fun i i0 i1 i2 i3 i4 => by rw [gs_k z i0 i2]; exact A1 i i0 i1 i2 i3 i4, fun _ => gs_s⟩
      rcases (show mid = -1 ∨ 0 ≤ mid by omega) with y1 | y1
      · omega
      · have bM := (bm mid y1 r1.1.2.2 _ e4).1
        rw [k297_16]
        simp +decide (maxSteps := 4000000) (disch := omega) only [k297_0, k297_1, k297_2, k297_3, k297_4, k297_6, k297_7, k297_8, k297_9, k297_10, k297_11, k297_12, k297_13, k297_14, k297_15, k297_17, k297_18, k297_19, k297_20, k297_21, k297_23, k297_24, k297_25, k297_27, k297_28, k297_29, k297_30, k297_31, k297_32, k297_33, k297_r, k297_s, F_al0, F_il1, J_ifeq, F_il2, F_il3, T_I, F_il4, J_ifne, T_ft, T_ret, T_getR, X_iald, F_is5i, F_is5r, F_is5m, F_il5, J_ifge, T_goto, F_is6i, F_is6r, F_is6m, F_is7i, F_is7r, F_is7m, F_is8i, F_is8r, F_is8m, F_il8, T_icge, J_icne, F_il6, F_is9i, F_is9r, F_is9m, F_il7, F_il9, J_iflt, F_inc8i, F_inc8r, F_inc8m, F_is10i, F_is10r, F_is10m, F_is11i, F_is11r, F_is11m, F_is12i, F_is12r, F_is12m, F_il12, T_icgt, T_iast, F_is13i, F_is13r, F_is13m, F_il13, F_is14i, F_is14r, F_is14m, F_il14, T_getI, T_sub, T_mul, T_add, F_is15i, F_is15r, F_is15m, F_il15, T_iclt, F_inc14i, F_inc14r, F_inc14m, F_inc13i, F_inc13r, F_inc13m, F_inc12i, F_inc12r, F_inc12m, F_il10, F_il11, c219, c286, c287, c288, c289, c294, c295, ↓s219, ↓s286, ↓s287, FM F, bT, bM, ln_744, ln_745, ln_749, z, y1, show ¬ top < 0 by omega, show ¬ bHi b top < u by omega, ↓reduceIte, TK, lt_run hn, le43, Int.le_refl, Int.lt_irrefl, Option.some.injEq, exists_eq_left', true_and, and_true, if_true, if_false, decide_eq_false_iff_not, decide_eq_true_eq, Nat.reduceAdd, Nat.reduceLeDiff, Nat.reduceLT, Int.reduceAdd, Int.reduceSub, Int.reduceMul, Int.reduceNeg, not_true_eq_false, not_false_eq_true]
        exact g1
  · rintro ⟨t, v13, v14, v15⟩ h1 ⟨⟨e1, A1⟩, ht⟩
    dsimp only at ht ⊢
    rw [show bHi b top + 1 - bLo b top = bHi b top - bLo b top + 1 by omega] at ht
    rw [ht]
    rcases (show top = -1 ∨ 0 ≤ top by omega) with z | z
    · have z2 := b0 top z
      have k1 := k h1 (.int (J (bHi b top + 1))) v13 v14 v15 e1
      rw [z2.2] at k1 ⊢
      rw [k297_16]
      simp +decide (maxSteps := 4000000) (disch := omega) only [k297_0, k297_1, k297_2, k297_3, k297_4, k297_6, k297_7, k297_8, k297_9, k297_10, k297_11, k297_12, k297_13, k297_14, k297_15, k297_17, k297_18, k297_19, k297_20, k297_21, k297_23, k297_24, k297_25, k297_27, k297_28, k297_29, k297_30, k297_32, k297_33, k297_r, k297_s, F_al0, F_il1, J_ifeq, F_il2, F_il3, T_I, F_il4, J_ifne, T_ft, T_ret, T_getR, X_iald, F_is5i, F_is5r, F_is5m, F_il5, J_ifge, T_goto, F_is6i, F_is6r, F_is6m, F_is7i, F_is7r, F_is7m, F_is8i, F_is8r, F_is8m, F_il8, T_icge, J_icne, F_il6, F_is9i, F_is9r, F_is9m, F_il7, F_il9, J_iflt, F_inc8i, F_inc8r, F_inc8m, F_is10i, F_is10r, F_is10m, F_is11i, F_is11r, F_is11m, F_is12i, F_is12r, F_is12m, F_il12, T_icgt, T_iast, F_is13i, F_is13r, F_is13m, F_il13, F_is14i, F_is14r, F_is14m, F_il14, T_getI, T_sub, T_mul, T_add, F_is15i, F_is15r, F_is15m, F_il15, T_iclt, F_inc14i, F_inc14r, F_inc14m, F_inc13i, F_inc13r, F_inc13m, F_inc12i, F_inc12r, F_inc12m, F_il10, F_il11, c219, c286, c287, c288, c289, c294, c295, ↓s219, ↓s286, ↓s287, FM F, show ¬ 0 ≤ top by omega, ↓reduceIte, TK, lt_run hn, le43, Int.le_refl, Int.lt_irrefl, Option.some.injEq, exists_eq_left', true_and, and_true, if_true, if_false, decide_eq_false_iff_not, decide_eq_true_eq, Nat.reduceAdd, Nat.reduceLeDiff, Nat.reduceLT, Int.reduceAdd, Int.reduceSub, Int.reduceMul, Int.reduceNeg, not_true_eq_false, not_false_eq_true]
      exact k1
    · have bT := (bm top z r2.1.2.2 h1 e1).2
      have k1 := k h1 (.int (J (bHi b top + 1))) v13 v14 v15 e1
      rw [k297_16]
      simp +decide (maxSteps := 4000000) (disch := omega) only [k297_0, k297_1, k297_2, k297_3, k297_4, k297_6, k297_7, k297_8, k297_9, k297_10, k297_11, k297_12, k297_13, k297_14, k297_15, k297_17, k297_18, k297_19, k297_20, k297_21, k297_23, k297_24, k297_25, k297_27, k297_28, k297_29, k297_30, k297_32, k297_33, k297_r, k297_s, F_al0, F_il1, J_ifeq, F_il2, F_il3, T_I, F_il4, J_ifne, T_ft, T_ret, T_getR, X_iald, F_is5i, F_is5r, F_is5m, F_il5, J_ifge, T_goto, F_is6i, F_is6r, F_is6m, F_is7i, F_is7r, F_is7m, F_is8i, F_is8r, F_is8m, F_il8, T_icge, J_icne, F_il6, F_is9i, F_is9r, F_is9m, F_il7, F_il9, J_iflt, F_inc8i, F_inc8r, F_inc8m, F_is10i, F_is10r, F_is10m, F_is11i, F_is11r, F_is11m, F_is12i, F_is12r, F_is12m, F_il12, T_icgt, T_iast, F_is13i, F_is13r, F_is13m, F_il13, F_is14i, F_is14r, F_is14m, F_il14, T_getI, T_sub, T_mul, T_add, F_is15i, F_is15r, F_is15m, F_il15, T_iclt, F_inc14i, F_inc14r, F_inc14m, F_inc13i, F_inc13r, F_inc13m, F_inc12i, F_inc12r, F_inc12m, F_il10, F_il11, c219, c286, c287, c288, c289, c294, c295, ↓s219, ↓s286, ↓s287, FM F, bT, ln_745, z, show bHi b top < bHi b top + 1 by omega, ↓reduceIte, TK, lt_run hn, le43, Int.le_refl, Int.lt_irrefl, Option.some.injEq, exists_eq_left', true_and, and_true, if_true, if_false, decide_eq_false_iff_not, decide_eq_true_eq, Nat.reduceAdd, Nat.reduceLeDiff, Nat.reduceLT, Int.reduceAdd, Int.reduceSub, Int.reduceMul, Int.reduceNeg, not_true_eq_false, not_false_eq_true]
      exact k1
end RX
