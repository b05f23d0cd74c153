/-! match: the reference's best match; match -/
def Smb (x _k : Nat) : Prop := x = 739 ∨ x = 741
section MF
variable {E : AEn} {h h' : AHi} {hr : AHr} {n : Nat} {Q : ARs → Prop} {D D' : Drw} {m : Int} {f g : Int → Int}
theorem DM.mb {d : Int} (M : DM h d D) (hd : 0 ≤ d) (R : DRr D) (e : Ef Smb h h') : DM h' d D := by
  refine ⟨(e.g (by unfold Smb; omega)).trans M.1, fun s s0 s1 => (M.2 s s0 s1).ef (by omega) ((R.2 s).2.1.2) e ?_ ?_ (fun i _ _ => ⟨?_, ?_⟩)⟩
  all_goals
    unfold Smb
    omega
/-- the reference's rows from i on -/
def maRt (c : Int → Int → Int) (P : Int → Int → Bool) (a b : Int) (h : AHi) (i : Int) : Prop := ∀ i' S, i ≤ i' → i' ≤ a → 0 ≤ S → S < 256 → gA h 739 (256 * i' + S) = J (maR c P a b (a - i').toNat S)
theorem maN_r {v : Int → Int} {ok : Int → Bool} (h : ∀ j, 0 ≤ v j) (k : Nat) : 0 ≤ maN v ok k ∧ maN v ok k ≤ 1000000 := by
  refine ⟨?_, (maN_le v ok k).1⟩
  rcases maN_at v ok k with q | ⟨j, _, _, q⟩
  · rw [q]
    omega
  · rw [q]
    exact h j
theorem w274 (F : FH hr) (hn : 775 ≤ n) {d e : Int} (hd : 0 ≤ d ∧ d < 16) (he : 0 ≤ e ∧ e < 16) (M : DM h d D) (M' : DM h e D') (R : DRr D) (R' : DRr D') (H : maH (mack D D') D.1 D'.1 m f g) (b1 : h 704 45 = J m) (b2 : ∀ i, 0 ≤ i → i < m → gA h 737 i = J (f i) ∧ gA h 738 i = J (g i))
    (k : ∀ h', Ef Smb h h' → (∀ i, 0 ≤ i → i < D.1 → gA h' 741 i = J (maZ (mack D D') D.1 D'.1 m f g i)) → Q (some (.int (J (maR (mack D D') (maPP D.1 D'.1 m f g) D.1 D'.1 D.1.toNat 0))), h', hr, n)) : Sp E 274 [.ref 704, .int (J d), .int (J e)] h hr n Q := by
  have r1 := R.1
  have r2 := R'.1
  have m1 := M.1
  have m2 := M'.1
  have hm := H.2.2.1
  have w := maW_r R'.1
  have kb : ∀ h', Ef Smb h h' → (gA h' 708 d = J D.1 ∧ gA h' 708 e = J D'.1 ∧ h' 704 45 = J m) ∧ ∀ i, 0 ≤ i → i < m → gA h' 737 i = J (f i) ∧ gA h' 738 i = J (g i) := fun h' e1 => by
    refine ⟨⟨(e1.g (by unfold Smb; omega)).trans m1, (e1.g (by unfold Smb; omega)).trans m2, (e1 _ _ (by unfold Smb; omega)).trans b1⟩, fun i i0 i1 => ?_⟩
    rw [e1.g (by unfold Smb; omega), e1.g (by unfold Smb; omega)]
    exact b2 i i0 i1
  generalize hP : maPP D.1 D'.1 m f g = P at *
  generalize hc : mack D D' = c at *
  have may : ∀ (h' : AHi) (i j : Int) {Q : ARs → Prop}, Ef Smb h h' → 0 ≤ i ∧ i < D.1 → 0 ≤ j ∧ j ≤ 8 → Q (some (.int (Bz (P i j))), h', hr, n) → Sp E 276 [.ref 704, .int (J d), .int (J e), .int (J i), .int (J j)] h' hr n Q := fun h' i j {Q} e1 hi hj q => by
    obtain ⟨⟨q1, q2, q3⟩, q4⟩ := kb h' e1
    refine w276 F hn hd he r1 r2 (by omega) hj hm H.2.2.2.2.1 H.2.2.2.2.2.1 q1 q2 q3 q4 ?_
    rw [hP]
    exact q
  have wp : ∀ (h' : AHi) (i j S : Int) {Q : ARs → Prop}, Ef Smb h h' → 0 ≤ i ∧ i < D.1 → (0 ≤ j ∧ j < D'.1) ∨ j = 8 → 0 ≤ S ∧ S < 256 → maRt c P D.1 D'.1 h' (i + 1) → (Sp E 277 [.ref 704, .int (J d), .int (J e), .int (J i), .int (J j), .int (J S)] h' hr n Q ↔ Q (some (.int (J (maV c (maR c P D.1 D'.1 (D.1 - i - 1).toNat) i S j))), h', hr, n)) := fun h' i j S {Q} e1 hi hj hS t => by
    rw [← hc]
    refine s277 (E := E) (Q := Q) F hn hd he hi hj hS (M.mb hd.1 R e1) (M'.mb he.1 R' e1) R R' ?_
    rw [hc, show D.1 - i - 1 = D.1 - (i + 1) by omega]
    refine t (i + 1) _ (by omega) (by omega) ?_ ?_
    · split
      · exact hS.1
      · exact (maA_8 hS (by omega)).1
    · split
      · exact hS.2
      · exact (maA_8 hS (by omega)).2
  have V : ∀ (k : Nat) (i S j : Int), 0 ≤ maV c (maR c P D.1 D'.1 k) i S j ∧ maV c (maR c P D.1 D'.1 k) i S j ≤ 1007000 := fun k i S j => maV_R H k i S j
  simp +decide (maxSteps := 4000000) (disch := omega) only [k274_0, k274_3, k274_4, k274_5, k274_6, k274_10, k274_11, k274_12, k274_13, k274_14, k274_15, k274_16, k274_19, k274_20, k274_21, k274_22, k274_23, k274_24, k274_25, k274_r, k274_s, F_al0, T_getR, F_il1, X_iald, F_is3i, F_is3r, F_is3m, T_I, F_is4i, F_is4r, F_is4m, T_ft, F_il4, T_icge, F_is5i, F_is5r, F_is5m, F_is6i, F_is6r, F_is6m, F_il6, F_il2, F_il5, T_shr, T_and, J_ifne, T_goto, T_add, F_inc6i, F_inc6r, F_inc6m, F_il3, T_mul, T_iast, F_inc4i, F_inc4r, F_inc4m, T_sub, J_iflt, F_is7i, F_is7r, F_is7m, F_il7, J_ifeq, F_is8i, F_is8r, F_is8m, F_il8, F_inc7i, F_inc7r, F_inc7m, F_inc5i, F_inc5r, F_inc5m, J_icne, T_shl, T_or, T_ret, c275, c276, c277, ↓s275, ↓s277, FM F, m1, ln_708, ↓reduceIte, TK, lt_run hn, le43, Int.le_refl, Int.lt_irrefl, Option.some.injEq, exists_eq_left', true_and, and_true, if_true, if_false, decide_eq_false_iff_not, decide_eq_true_eq, Nat.reduceAdd, Nat.reduceLeDiff, Nat.reduceLT, Int.reduceAdd, Int.reduceSub, Int.reduceMul, Int.reduceNeg, not_true_eq_false, not_false_eq_true]
  refine T_for (σ := Value × Value × Value × Value) (fun S v => [.ref 704, .int (J d), .int (J e), .int (J D.1), .int (J S), v.1, v.2.1, v.2.2.1, v.2.2.2]) (fun q _ h' => Ef Smb h h' ∧ ∀ S, 0 ≤ S → S < q → gA h' 739 (256 * D.1 + S) = J (400 * maF S D'.1.toNat)) 0 256 ?_ ?_ 0 (a_mk, a_mk, a_mk, a_mk) h (by omega) (by omega) ⟨Ef.refl, fun S _ _ => by omega⟩
  · rintro S ⟨v5, v6, v7, v8⟩ h' s0 s1 ⟨e1, e2⟩ ih
    dsimp only
    obtain ⟨⟨q1, q2, q3⟩, q4⟩ := kb h' e1
    rw [k274_1]
    simp +decide (maxSteps := 4000000) (disch := omega) only [k274_0, k274_3, k274_4, k274_5, k274_6, k274_10, k274_11, k274_12, k274_13, k274_14, k274_15, k274_16, k274_19, k274_20, k274_21, k274_22, k274_23, k274_24, k274_25, k274_r, k274_s, F_al0, T_getR, F_il1, X_iald, F_is3i, F_is3r, F_is3m, T_I, F_is4i, F_is4r, F_is4m, T_ft, F_il4, T_icge, F_is5i, F_is5r, F_is5m, F_is6i, F_is6r, F_is6m, F_il6, F_il2, F_il5, T_shr, T_and, J_ifne, T_goto, T_add, F_inc6i, F_inc6r, F_inc6m, F_il3, T_mul, T_iast, F_inc4i, F_inc4r, F_inc4m, T_sub, J_iflt, F_is7i, F_is7r, F_is7m, F_il7, J_ifeq, F_is8i, F_is8r, F_is8m, F_il8, F_inc7i, F_inc7r, F_inc7m, F_inc5i, F_inc5r, F_inc5m, J_icne, T_shl, T_or, T_ret, c275, c276, c277, ↓s275, ↓s277, FM F, show ¬ 256 ≤ S by omega, ↓reduceIte, TK, lt_run hn, le43, Int.le_refl, Int.lt_irrefl, Option.some.injEq, exists_eq_left', true_and, and_true, if_true, if_false, decide_eq_false_iff_not, decide_eq_true_eq, Nat.reduceAdd, Nat.reduceLeDiff, Nat.reduceLT, Int.reduceAdd, Int.reduceSub, Int.reduceMul, Int.reduceNeg, not_true_eq_false, not_false_eq_true]
    refine T_for (σ := Unit) (fun j _ => [.ref 704, .int (J d), .int (J e), .int (J D.1), .int (J S), .int (J (maF S j.toNat)), .int (J j), v7, v8]) (fun _ _ h'' => h'' = h') 0 D'.1 ?_ ?_ 0 () h' (by omega) (by omega) rfl
    · rintro j _ h2 j0 j1 rfl ihj
      have bt := mbt (S := S) (j := j) (by omega) (by omega)
      have es : maF S (j + 1).toNat = maF S j.toNat + (if maB S j = true then 0 else 1) := by
        rw [show (j + 1).toNat = j.toNat + 1 by omega]
        show _ + (if maB S (j.toNat : Int) = true then 0 else 1) = _
        rw [Int.toNat_of_nonneg j0]
      have ih' := ihj () _ rfl
      try dsimp only at ih'
      rw [es] at ih'
      by_cases g : maB S j = true
      · rw [if_pos g] at bt ih'
        rw [k274_2]
        simp +decide (maxSteps := 4000000) (disch := omega) only [k274_0, k274_3, k274_4, k274_5, k274_6, k274_10, k274_11, k274_12, k274_13, k274_14, k274_15, k274_16, k274_19, k274_20, k274_21, k274_22, k274_23, k274_24, k274_25, k274_r, k274_s, F_al0, T_getR, F_il1, X_iald, F_is3i, F_is3r, F_is3m, T_I, F_is4i, F_is4r, F_is4m, T_ft, F_il4, T_icge, F_is5i, F_is5r, F_is5m, F_is6i, F_is6r, F_is6m, F_il6, F_il2, F_il5, T_shr, T_and, J_ifne, T_goto, T_add, F_inc6i, F_inc6r, F_inc6m, F_il3, T_mul, T_iast, F_inc4i, F_inc4r, F_inc4m, T_sub, J_iflt, F_is7i, F_is7r, F_is7m, F_il7, J_ifeq, F_is8i, F_is8r, F_is8m, F_il8, F_inc7i, F_inc7r, F_inc7m, F_inc5i, F_inc5r, F_inc5m, J_icne, T_shl, T_or, T_ret, c275, c276, c277, ↓s275, ↓s277, FM F, q2, bt, ln_708, show ¬ D'.1 ≤ j by omega, ↓reduceIte, TK, lt_run hn, le43, Int.le_refl, Int.lt_irrefl, Option.some.injEq, exists_eq_left', true_and, and_true, if_true, if_false, decide_eq_false_iff_not, decide_eq_true_eq, Nat.reduceAdd, Nat.reduceLeDiff, Nat.reduceLT, Int.reduceAdd, Int.reduceSub, Int.reduceMul, Int.reduceNeg, not_true_eq_false, not_false_eq_true]
        exact ih'
      · rw [if_neg g] at bt ih'
        rw [k274_2]
        simp +decide (maxSteps := 4000000) (disch := omega) only [k274_0, k274_3, k274_4, k274_5, k274_6, k274_10, k274_11, k274_12, k274_13, k274_14, k274_15, k274_16, k274_19, k274_20, k274_21, k274_22, k274_23, k274_24, k274_25, k274_r, k274_s, F_al0, T_getR, F_il1, X_iald, F_is3i, F_is3r, F_is3m, T_I, F_is4i, F_is4r, F_is4m, T_ft, F_il4, T_icge, F_is5i, F_is5r, F_is5m, F_is6i, F_is6r, F_is6m, F_il6, F_il2, F_il5, T_shr, T_and, J_ifne, T_goto, T_add, F_inc6i, F_inc6r, F_inc6m, F_il3, T_mul, T_iast, F_inc4i, F_inc4r, F_inc4m, T_sub, J_iflt, F_is7i, F_is7r, F_is7m, F_il7, J_ifeq, F_is8i, F_is8r, F_is8m, F_il8, F_inc7i, F_inc7r, F_inc7m, F_inc5i, F_inc5r, F_inc5m, J_icne, T_shl, T_or, T_ret, c275, c276, c277, ↓s275, ↓s277, FM F, q2, bt, ln_708, show ¬ D'.1 ≤ j by omega, ↓reduceIte, TK, lt_run hn, le43, Int.le_refl, Int.lt_irrefl, Option.some.injEq, exists_eq_left', true_and, and_true, if_true, if_false, decide_eq_false_iff_not, decide_eq_true_eq, Nat.reduceAdd, Nat.reduceLeDiff, Nat.reduceLT, Int.reduceAdd, Int.reduceSub, Int.reduceMul, Int.reduceNeg, not_true_eq_false, not_false_eq_true]
        exact ih'
    · rintro _ h2 rfl
      rw [k274_2]
      simp +decide (maxSteps := 4000000) (disch := omega) only [k274_0, k274_3, k274_4, k274_5, k274_6, k274_10, k274_11, k274_12, k274_13, k274_14, k274_15, k274_16, k274_19, k274_20, k274_21, k274_22, k274_23, k274_24, k274_25, k274_r, k274_s, F_al0, T_getR, F_il1, X_iald, F_is3i, F_is3r, F_is3m, T_I, F_is4i, F_is4r, F_is4m, T_ft, F_il4, T_icge, F_is5i, F_is5r, F_is5m, F_is6i, F_is6r, F_is6m, F_il6, F_il2, F_il5, T_shr, T_and, J_ifne, T_goto, T_add, F_inc6i, F_inc6r, F_inc6m, F_il3, T_mul, T_iast, F_inc4i, F_inc4r, F_inc4m, T_sub, J_iflt, F_is7i, F_is7r, F_is7m, F_il7, J_ifeq, F_is8i, F_is8r, F_is8m, F_il8, F_inc7i, F_inc7r, F_inc7m, F_inc5i, F_inc5r, F_inc5m, J_icne, T_shl, T_or, T_ret, c275, c276, c277, ↓s275, ↓s277, FM F, q2, ln_708, ln_739, ↓reduceIte, TK, lt_run hn, le43, Int.le_refl, Int.lt_irrefl, Option.some.injEq, exists_eq_left', true_and, and_true, if_true, if_false, decide_eq_false_iff_not, decide_eq_true_eq, Nat.reduceAdd, Nat.reduceLeDiff, Nat.reduceLT, Int.reduceAdd, Int.reduceSub, Int.reduceMul, Int.reduceNeg, not_true_eq_false, not_false_eq_true]
      refine ih (_, _, _, _) _ ⟨Ef.sA e1 (Or.inl rfl), fun S' s2 s3 => ?_⟩
      by_cases z : S' = S
      · rw [z, gs_s]
      · rw [gs_k (by omega) (by omega) (by omega)]
        exact e2 S' s2 (by omega)
  rintro ⟨v5, v6, v7, v8⟩ h1 ⟨e1, e2⟩
  dsimp only
  rw [k274_1]
  simp +decide (maxSteps := 4000000) (disch := omega) only [k274_0, k274_3, k274_4, k274_5, k274_6, k274_10, k274_11, k274_12, k274_13, k274_14, k274_15, k274_16, k274_19, k274_20, k274_21, k274_22, k274_23, k274_24, k274_25, k274_r, k274_s, F_al0, T_getR, F_il1, X_iald, F_is3i, F_is3r, F_is3m, T_I, F_is4i, F_is4r, F_is4m, T_ft, F_il4, T_icge, F_is5i, F_is5r, F_is5m, F_is6i, F_is6r, F_is6m, F_il6, F_il2, F_il5, T_shr, T_and, J_ifne, T_goto, T_add, F_inc6i, F_inc6r, F_inc6m, F_il3, T_mul, T_iast, F_inc4i, F_inc4r, F_inc4m, T_sub, J_iflt, F_is7i, F_is7r, F_is7m, F_il7, J_ifeq, F_is8i, F_is8r, F_is8m, F_il8, F_inc7i, F_inc7r, F_inc7m, F_inc5i, F_inc5r, F_inc5m, J_icne, T_shl, T_or, T_ret, c275, c276, c277, ↓s275, ↓s277, FM F, ↓reduceIte, TK, lt_run hn, le43, Int.le_refl, Int.lt_irrefl, Option.some.injEq, exists_eq_left', true_and, and_true, if_true, if_false, decide_eq_false_iff_not, decide_eq_true_eq, Nat.reduceAdd, Nat.reduceLeDiff, Nat.reduceLT, Int.reduceAdd, Int.reduceSub, Int.reduceMul, Int.reduceNeg, not_true_eq_false, not_false_eq_true]
  refine T_down (σ := Value × Value × Value × Value) (fun i v => [.ref 704, .int (J d), .int (J e), .int (J D.1), .int (J i), v.1, v.2.1, v.2.2.1, v.2.2.2]) (fun i _ h' => Ef Smb h h' ∧ maRt c P D.1 D'.1 h' (i + 1)) (-1) (D.1 - 1) ?_ ?_ (D.1 - 1) (v5, v6, v7, v8) h1 (by omega) (by omega) ⟨e1, fun i' S i0 i1 s0 s1 => ?_⟩
  case refine_3 =>
    rw [show i' = D.1 by omega, show (D.1 - D.1).toNat = 0 by omega]
    exact e2 S s0 s1
  · rintro i ⟨v5, v6, v7, v8⟩ h' i0 i1 ⟨e1, e2⟩ ih
    dsimp only
    rw [k274_7]
    simp +decide (maxSteps := 4000000) (disch := omega) only [k274_0, k274_3, k274_4, k274_5, k274_6, k274_10, k274_11, k274_12, k274_13, k274_14, k274_15, k274_16, k274_19, k274_20, k274_21, k274_22, k274_23, k274_24, k274_25, k274_r, k274_s, F_al0, T_getR, F_il1, X_iald, F_is3i, F_is3r, F_is3m, T_I, F_is4i, F_is4r, F_is4m, T_ft, F_il4, T_icge, F_is5i, F_is5r, F_is5m, F_is6i, F_is6r, F_is6m, F_il6, F_il2, F_il5, T_shr, T_and, J_ifne, T_goto, T_add, F_inc6i, F_inc6r, F_inc6m, F_il3, T_mul, T_iast, F_inc4i, F_inc4r, F_inc4m, T_sub, J_iflt, F_is7i, F_is7r, F_is7m, F_il7, J_ifeq, F_is8i, F_is8r, F_is8m, F_il8, F_inc7i, F_inc7r, F_inc7m, F_inc5i, F_inc5r, F_inc5m, J_icne, T_shl, T_or, T_ret, c275, c276, c277, ↓s275, ↓s277, FM F, show ¬ i < 0 by omega, show 0 ≤ i by omega, ↓reduceIte, TK, lt_run hn, le43, Int.le_refl, Int.lt_irrefl, Option.some.injEq, exists_eq_left', true_and, and_true, if_true, if_false, decide_eq_false_iff_not, decide_eq_true_eq, Nat.reduceAdd, Nat.reduceLeDiff, Nat.reduceLT, Int.reduceAdd, Int.reduceSub, Int.reduceMul, Int.reduceNeg, not_true_eq_false, not_false_eq_true]
    refine T_for (σ := Value × Value × Value) (fun S v => [.ref 704, .int (J d), .int (J e), .int (J D.1), .int (J i), .int (J S), v.1, v.2.1, v.2.2]) (fun q _ h' => Ef Smb h h' ∧ maRt c P D.1 D'.1 h' (i + 1) ∧ ∀ S, 0 ≤ S → S < q → gA h' 739 (256 * i + S) = J (maR c P D.1 D'.1 (D.1 - i).toNat S)) 0 256 ?_ ?_ 0 (v6, v7, v8) h' (by omega) (by omega) ⟨e1, e2, fun S _ _ => by omega⟩
    · rintro S ⟨v6, v7, v8⟩ h' s0 s1 ⟨e1, e2, e3⟩ ih
      dsimp only
      obtain ⟨⟨q1, q2, q3⟩, q4⟩ := kb h' e1
      have nr := maN_r (v := maV c (maR c P D.1 D'.1 (D.1 - i - 1).toNat) i S) (ok := fun j => maO D'.1 S j && P i j) (fun j => (V _ i S j).1)
      rw [k274_8]
      simp +decide (maxSteps := 4000000) (disch := omega) only [k274_0, k274_3, k274_4, k274_5, k274_6, k274_10, k274_11, k274_12, k274_13, k274_14, k274_15, k274_16, k274_19, k274_20, k274_21, k274_22, k274_23, k274_24, k274_25, k274_r, k274_s, F_al0, T_getR, F_il1, X_iald, F_is3i, F_is3r, F_is3m, T_I, F_is4i, F_is4r, F_is4m, T_ft, F_il4, T_icge, F_is5i, F_is5r, F_is5m, F_is6i, F_is6r, F_is6m, F_il6, F_il2, F_il5, T_shr, T_and, J_ifne, T_goto, T_add, F_inc6i, F_inc6r, F_inc6m, F_il3, T_mul, T_iast, F_inc4i, F_inc4r, F_inc4m, T_sub, J_iflt, F_is7i, F_is7r, F_is7m, F_il7, J_ifeq, F_is8i, F_is8r, F_is8m, F_il8, F_inc7i, F_inc7r, F_inc7m, F_inc5i, F_inc5r, F_inc5m, J_icne, T_shl, T_or, T_ret, c275, c276, c277, ↓s275, ↓s277, FM F, show ¬ 256 ≤ S by omega, ↓reduceIte, TK, lt_run hn, le43, Int.le_refl, Int.lt_irrefl, Option.some.injEq, exists_eq_left', true_and, and_true, if_true, if_false, decide_eq_false_iff_not, decide_eq_true_eq, Nat.reduceAdd, Nat.reduceLeDiff, Nat.reduceLT, Int.reduceAdd, Int.reduceSub, Int.reduceMul, Int.reduceNeg, not_true_eq_false, not_false_eq_true]
      refine T_for (σ := Value) (fun j v => [.ref 704, .int (J d), .int (J e), .int (J D.1), .int (J i), .int (J S), .int (J (maN (maV c (maR c P D.1 D'.1 (D.1 - i - 1).toNat) i S) (fun j => maO D'.1 S j && P i j) j.toNat)), .int (J j), v]) (fun _ _ h'' => h'' = h') 0 9 ?_ ?_ 0 v8 h' (by omega) (by omega) rfl
      · rintro j v8 h2 j0 j1 rfl ihj
        have st := maN_s (v := maV c (maR c P D.1 D'.1 (D.1 - i - 1).toNat) i S) (ok := fun j => maO D'.1 S j && P i j) j0
        have t1 := fun {Q} => s275 (E := E) (h := h2) (hr := hr) (Q := Q) F hn he r2 (j := j) (S := S) (by omega) (by omega) q2
        have nj := nr j.toNat
        have vj := V (D.1 - i - 1).toNat i S j
        have ih' := fun v => ihj v _ rfl
        try dsimp only at ih' st
        rw [st] at ih'
        cases ho : maO D'.1 S j with
        | false =>
          rw [ho, Bool.false_and, if_neg (by decide)] at ih'
          rw [k274_9]
          simp +decide (maxSteps := 4000000) (disch := omega) only [k274_0, k274_3, k274_4, k274_5, k274_6, k274_10, k274_11, k274_12, k274_13, k274_14, k274_15, k274_16, k274_19, k274_20, k274_21, k274_22, k274_23, k274_24, k274_25, k274_r, k274_s, F_al0, T_getR, F_il1, X_iald, F_is3i, F_is3r, F_is3m, T_I, F_is4i, F_is4r, F_is4m, T_ft, F_il4, T_icge, F_is5i, F_is5r, F_is5m, F_is6i, F_is6r, F_is6m, F_il6, F_il2, F_il5, T_shr, T_and, J_ifne, T_goto, T_add, F_inc6i, F_inc6r, F_inc6m, F_il3, T_mul, T_iast, F_inc4i, F_inc4r, F_inc4m, T_sub, J_iflt, F_is7i, F_is7r, F_is7m, F_il7, J_ifeq, F_is8i, F_is8r, F_is8m, F_il8, F_inc7i, F_inc7r, F_inc7m, F_inc5i, F_inc5r, F_inc5m, J_icne, T_shl, T_or, T_ret, c275, c276, c277, FM F, t1, ho, Bz_f, show ¬ 9 ≤ j by omega, ↓reduceIte, TK, lt_run hn, le43, Int.le_refl, Int.lt_irrefl, Option.some.injEq, exists_eq_left', true_and, and_true, if_true, if_false, decide_eq_false_iff_not, decide_eq_true_eq, Nat.reduceAdd, Nat.reduceLeDiff, Nat.reduceLT, Int.reduceAdd, Int.reduceSub, Int.reduceMul, Int.reduceNeg, not_true_eq_false, not_false_eq_true]
          exact ih' _
        | true =>
          rw [ho, Bool.true_and] at ih'
          rw [k274_9]
          simp +decide (maxSteps := 4000000) (disch := omega) only [k274_0, k274_3, k274_4, k274_5, k274_6, k274_10, k274_11, k274_12, k274_13, k274_14, k274_15, k274_16, k274_19, k274_20, k274_21, k274_22, k274_23, k274_24, k274_25, k274_r, k274_s, F_al0, T_getR, F_il1, X_iald, F_is3i, F_is3r, F_is3m, T_I, F_is4i, F_is4r, F_is4m, T_ft, F_il4, T_icge, F_is5i, F_is5r, F_is5m, F_is6i, F_is6r, F_is6m, F_il6, F_il2, F_il5, T_shr, T_and, J_ifne, T_goto, T_add, F_inc6i, F_inc6r, F_inc6m, F_il3, T_mul, T_iast, F_inc4i, F_inc4r, F_inc4m, T_sub, J_iflt, F_is7i, F_is7r, F_is7m, F_il7, J_ifeq, F_is8i, F_is8r, F_is8m, F_il8, F_inc7i, F_inc7r, F_inc7m, F_inc5i, F_inc5r, F_inc5m, J_icne, T_shl, T_or, T_ret, c275, c276, c277, FM F, t1, ho, Bz_t, show ¬ 9 ≤ j by omega, ↓reduceIte, TK, lt_run hn, le43, Int.le_refl, Int.lt_irrefl, Option.some.injEq, exists_eq_left', true_and, and_true, if_true, if_false, decide_eq_false_iff_not, decide_eq_true_eq, Nat.reduceAdd, Nat.reduceLeDiff, Nat.reduceLT, Int.reduceAdd, Int.reduceSub, Int.reduceMul, Int.reduceNeg, not_true_eq_false, not_false_eq_true]
          refine may _ i j e1 (by omega) (by omega) ?_
          have hj : (0 ≤ j ∧ j < D'.1) ∨ j = 8 := by
            rcases maO_i.mp ho with z | z
            · exact Or.inl ⟨j0, z.1⟩
            · exact Or.inr z
          cases hp : P i j with
          | false =>
            rw [hp, if_neg (by decide)] at ih'
            simp +decide (maxSteps := 4000000) (disch := omega) only [k274_0, k274_3, k274_4, k274_5, k274_6, k274_10, k274_11, k274_12, k274_13, k274_14, k274_15, k274_16, k274_19, k274_20, k274_21, k274_22, k274_23, k274_24, k274_25, k274_r, k274_s, F_al0, T_getR, F_il1, X_iald, F_is3i, F_is3r, F_is3m, T_I, F_is4i, F_is4r, F_is4m, T_ft, F_il4, T_icge, F_is5i, F_is5r, F_is5m, F_is6i, F_is6r, F_is6m, F_il6, F_il2, F_il5, T_shr, T_and, J_ifne, T_goto, T_add, F_inc6i, F_inc6r, F_inc6m, F_il3, T_mul, T_iast, F_inc4i, F_inc4r, F_inc4m, T_sub, J_iflt, F_is7i, F_is7r, F_is7m, F_il7, J_ifeq, F_is8i, F_is8r, F_is8m, F_il8, F_inc7i, F_inc7r, F_inc7m, F_inc5i, F_inc5r, F_inc5m, J_icne, T_shl, T_or, T_ret, c275, c276, c277, Bz_f, ↓reduceIte, TK, lt_run hn, le43, Int.le_refl, Int.lt_irrefl, Option.some.injEq, exists_eq_left', true_and, and_true, if_true, if_false, decide_eq_false_iff_not, decide_eq_true_eq, Nat.reduceAdd, Nat.reduceLeDiff, Nat.reduceLT, Int.reduceAdd, Int.reduceSub, Int.reduceMul, Int.reduceNeg, not_true_eq_false, not_false_eq_true]
            exact ih' _
          | true =>
            rw [hp, if_pos (by decide)] at ih'
            have t2 := fun {Q} => wp h2 i j S (Q := Q) e1 (by omega) hj (by omega) e2
            by_cases z : maV c (maR c P D.1 D'.1 (D.1 - i - 1).toNat) i S j < maN (maV c (maR c P D.1 D'.1 (D.1 - i - 1).toNat) i S) (fun j => maO D'.1 S j && P i j) j.toNat
            · rw [if_pos z] at ih'
              simp +decide (maxSteps := 4000000) (disch := omega) only [k274_0, k274_3, k274_4, k274_5, k274_6, k274_10, k274_11, k274_12, k274_13, k274_14, k274_15, k274_16, k274_19, k274_20, k274_21, k274_22, k274_23, k274_24, k274_25, k274_r, k274_s, F_al0, T_getR, F_il1, X_iald, F_is3i, F_is3r, F_is3m, T_I, F_is4i, F_is4r, F_is4m, T_ft, F_il4, T_icge, F_is5i, F_is5r, F_is5m, F_is6i, F_is6r, F_is6m, F_il6, F_il2, F_il5, T_shr, T_and, J_ifne, T_goto, T_add, F_inc6i, F_inc6r, F_inc6m, F_il3, T_mul, T_iast, F_inc4i, F_inc4r, F_inc4m, T_sub, J_iflt, F_is7i, F_is7r, F_is7m, F_il7, J_ifeq, F_is8i, F_is8r, F_is8m, F_il8, F_inc7i, F_inc7r, F_inc7m, F_inc5i, F_inc5r, F_inc5m, J_icne, T_shl, T_or, T_ret, c275, c276, c277, Bz_t, t2, z, show ¬ maN (maV c (maR c P D.1 D'.1 (D.1 - i - 1).toNat) i S) (fun j => maO D'.1 S j && P i j) j.toNat ≤ maV c (maR c P D.1 D'.1 (D.1 - i - 1).toNat) i S j by omega, ↓reduceIte, TK, lt_run hn, le43, Int.le_refl, Int.lt_irrefl, Option.some.injEq, exists_eq_left', true_and, and_true, if_true, if_false, decide_eq_false_iff_not, decide_eq_true_eq, Nat.reduceAdd, Nat.reduceLeDiff, Nat.reduceLT, Int.reduceAdd, Int.reduceSub, Int.reduceMul, Int.reduceNeg, not_true_eq_false, not_false_eq_true]
              exact ih' _
            · rw [if_neg z] at ih'
              simp +decide (maxSteps := 4000000) (disch := omega) only [k274_0, k274_3, k274_4, k274_5, k274_6, k274_10, k274_11, k274_12, k274_13, k274_14, k274_15, k274_16, k274_19, k274_20, k274_21, k274_22, k274_23, k274_24, k274_25, k274_r, k274_s, F_al0, T_getR, F_il1, X_iald, F_is3i, F_is3r, F_is3m, T_I, F_is4i, F_is4r, F_is4m, T_ft, F_il4, T_icge, F_is5i, F_is5r, F_is5m, F_is6i, F_is6r, F_is6m, F_il6, F_il2, F_il5, T_shr, T_and, J_ifne, T_goto, T_add, F_inc6i, F_inc6r, F_inc6m, F_il3, T_mul, T_iast, F_inc4i, F_inc4r, F_inc4m, T_sub, J_iflt, F_is7i, F_is7r, F_is7m, F_il7, J_ifeq, F_is8i, F_is8r, F_is8m, F_il8, F_inc7i, F_inc7r, F_inc7m, F_inc5i, F_inc5r, F_inc5m, J_icne, T_shl, T_or, T_ret, c275, c276, c277, Bz_t, t2, z, show maN (maV c (maR c P D.1 D'.1 (D.1 - i - 1).toNat) i S) (fun j => maO D'.1 S j && P i j) j.toNat ≤ maV c (maR c P D.1 D'.1 (D.1 - i - 1).toNat) i S j by omega, ↓reduceIte, TK, lt_run hn, le43, Int.le_refl, Int.lt_irrefl, Option.some.injEq, exists_eq_left', true_and, and_true, if_true, if_false, decide_eq_false_iff_not, decide_eq_true_eq, Nat.reduceAdd, Nat.reduceLeDiff, Nat.reduceLT, Int.reduceAdd, Int.reduceSub, Int.reduceMul, Int.reduceNeg, not_true_eq_false, not_false_eq_true]
              exact ih' _
      · rintro v8 h2 rfl
        have eR := maR_s (c := c) (P := P) (a := D.1) (b := D'.1) (i := i) (by omega) S
        rw [show (9 : Int).toNat = 9 from rfl, ← eR]
        rw [k274_9]
        simp +decide (maxSteps := 4000000) (disch := omega) only [k274_0, k274_3, k274_4, k274_5, k274_6, k274_10, k274_11, k274_12, k274_13, k274_14, k274_15, k274_16, k274_19, k274_20, k274_21, k274_22, k274_23, k274_24, k274_25, k274_r, k274_s, F_al0, T_getR, F_il1, X_iald, F_is3i, F_is3r, F_is3m, T_I, F_is4i, F_is4r, F_is4m, T_ft, F_il4, T_icge, F_is5i, F_is5r, F_is5m, F_is6i, F_is6r, F_is6m, F_il6, F_il2, F_il5, T_shr, T_and, J_ifne, T_goto, T_add, F_inc6i, F_inc6r, F_inc6m, F_il3, T_mul, T_iast, F_inc4i, F_inc4r, F_inc4m, T_sub, J_iflt, F_is7i, F_is7r, F_is7m, F_il7, J_ifeq, F_is8i, F_is8r, F_is8m, F_il8, F_inc7i, F_inc7r, F_inc7m, F_inc5i, F_inc5r, F_inc5m, J_icne, T_shl, T_or, T_ret, c275, c276, c277, ↓s275, ↓s277, FM F, ln_739, ↓reduceIte, TK, lt_run hn, le43, Int.le_refl, Int.lt_irrefl, Option.some.injEq, exists_eq_left', true_and, and_true, if_true, if_false, decide_eq_false_iff_not, decide_eq_true_eq, Nat.reduceAdd, Nat.reduceLeDiff, Nat.reduceLT, Int.reduceAdd, Int.reduceSub, Int.reduceMul, Int.reduceNeg, not_true_eq_false, not_false_eq_true]
        refine ih (_, _, _) _ ⟨Ef.sA e1 (Or.inl rfl), fun i' S' x0 x1 x2 x3 => ?_, fun S' x2 x3 => ?_⟩
        · rw [gs_k (by omega) (by omega) (by omega)]
          exact e2 i' S' x0 x1 x2 x3
        · by_cases z : S' = S
          · rw [z, gs_s]
          · rw [gs_k (by omega) (by omega) (by omega)]
            exact e3 S' x2 (by omega)
    · rintro ⟨v6, v7, v8⟩ h' ⟨e1, e2, e3⟩
      dsimp only
      rw [k274_8]
      simp +decide (maxSteps := 4000000) (disch := omega) only [k274_0, k274_3, k274_4, k274_5, k274_6, k274_10, k274_11, k274_12, k274_13, k274_14, k274_15, k274_16, k274_19, k274_20, k274_21, k274_22, k274_23, k274_24, k274_25, k274_r, k274_s, F_al0, T_getR, F_il1, X_iald, F_is3i, F_is3r, F_is3m, T_I, F_is4i, F_is4r, F_is4m, T_ft, F_il4, T_icge, F_is5i, F_is5r, F_is5m, F_is6i, F_is6r, F_is6m, F_il6, F_il2, F_il5, T_shr, T_and, J_ifne, T_goto, T_add, F_inc6i, F_inc6r, F_inc6m, F_il3, T_mul, T_iast, F_inc4i, F_inc4r, F_inc4m, T_sub, J_iflt, F_is7i, F_is7r, F_is7m, F_il7, J_ifeq, F_is8i, F_is8r, F_is8m, F_il8, F_inc7i, F_inc7r, F_inc7m, F_inc5i, F_inc5r, F_inc5m, J_icne, T_shl, T_or, T_ret, c275, c276, c277, ↓s275, ↓s277, FM F, ↓reduceIte, TK, lt_run hn, le43, Int.le_refl, Int.lt_irrefl, Option.some.injEq, exists_eq_left', true_and, and_true, if_true, if_false, decide_eq_false_iff_not, decide_eq_true_eq, Nat.reduceAdd, Nat.reduceLeDiff, Nat.reduceLT, Int.reduceAdd, Int.reduceSub, Int.reduceMul, Int.reduceNeg, not_true_eq_false, not_false_eq_true]
      refine ih (_, _, _, _) _ ⟨e1, fun i' S' x0 x1 x2 x3 => ?_⟩
      by_cases z : i' = i
      · rw [z]
        exact e3 S' x2 x3
      · exact e2 i' S' (by omega) x1 x2 x3
  rintro ⟨v5, v6, v7, v8⟩ h1 ⟨e1, e2⟩
  dsimp only
  have tt : maRt c P D.1 D'.1 h1 0 := e2
  rw [k274_7]
  simp +decide (maxSteps := 4000000) (disch := omega) only [k274_0, k274_3, k274_4, k274_5, k274_6, k274_10, k274_11, k274_12, k274_13, k274_14, k274_15, k274_16, k274_19, k274_20, k274_21, k274_22, k274_23, k274_24, k274_25, k274_r, k274_s, F_al0, T_getR, F_il1, X_iald, F_is3i, F_is3r, F_is3m, T_I, F_is4i, F_is4r, F_is4m, T_ft, F_il4, T_icge, F_is5i, F_is5r, F_is5m, F_is6i, F_is6r, F_is6m, F_il6, F_il2, F_il5, T_shr, T_and, J_ifne, T_goto, T_add, F_inc6i, F_inc6r, F_inc6m, F_il3, T_mul, T_iast, F_inc4i, F_inc4r, F_inc4m, T_sub, J_iflt, F_is7i, F_is7r, F_is7m, F_il7, J_ifeq, F_is8i, F_is8r, F_is8m, F_il8, F_inc7i, F_inc7r, F_inc7m, F_inc5i, F_inc5r, F_inc5m, J_icne, T_shl, T_or, T_ret, c275, c276, c277, ↓s275, ↓s277, FM F, ↓reduceIte, TK, lt_run hn, le43, Int.le_refl, Int.lt_irrefl, Option.some.injEq, exists_eq_left', true_and, and_true, if_true, if_false, decide_eq_false_iff_not, decide_eq_true_eq, Nat.reduceAdd, Nat.reduceLeDiff, Nat.reduceLT, Int.reduceAdd, Int.reduceSub, Int.reduceMul, Int.reduceNeg, not_true_eq_false, not_false_eq_true]
  have SS : ∀ i : Nat, (i : Int) ≤ D.1 → 0 ≤ maS (maY c P D.1 D'.1) i ∧ maS (maY c P D.1 D'.1) i < 256 := fun i hi => by
    obtain ⟨z1, z2, _⟩ := maSS H i hi
    rw [hP] at z1
    rw [← z1]
    omega
  have ZZ : ∀ i : Int, 0 ≤ i ∧ i < D.1 → maY c P D.1 D'.1 i (maS (maY c P D.1 D'.1) i.toNat) = maZ c D.1 D'.1 m f g i ∧ ((0 ≤ maZ c D.1 D'.1 m f g i ∧ maZ c D.1 D'.1 m f g i < D'.1) ∨ maZ c D.1 D'.1 m f g i = 8) := fun i hi => by
    have := maZ_e H hi
    rw [hP] at this
    exact this
  have e739 : ∀ h' : AHi, Ef (fun x _ => x = 741) h1 h' → Ef Smb h h' ∧ maRt c P D.1 D'.1 h' 0 := fun h' q => ⟨e1.trans (q.mono (fun a k z => Or.inr z)), fun i' S' x0 x1 x2 x3 => by rw [q.g (by decide)]; exact tt i' S' x0 x1 x2 x3⟩
  refine T_for (σ := Value × Value × Value) (fun i v => [.ref 704, .int (J d), .int (J e), .int (J D.1), .int (J (maS (maY c P D.1 D'.1) i.toNat)), .int (J i), v.1, v.2.1, v.2.2]) (fun i _ h' => Ef (fun x _ => x = 741) h1 h' ∧ ∀ i', 0 ≤ i' → i' < i → gA h' 741 i' = J (maZ c D.1 D'.1 m f g i')) 0 D.1 ?_ ?_ 0 (v6, v7, v8) h1 (by omega) (by omega) ⟨Ef.refl, fun i' _ _ => by omega⟩
  · rintro i ⟨v6, v7, v8⟩ h' i0 i1 ⟨e3, e4⟩ ih
    dsimp only
    obtain ⟨e5, e6⟩ := e739 h' e3
    obtain ⟨⟨q1, q2, q3⟩, q4⟩ := kb h' e5
    have sr := SS i.toNat (by omega)
    have ss := maS_s (maY c P D.1 D'.1) i0
    have zz := ZZ i (by omega)
    generalize hSS : maS (maY c P D.1 D'.1) i.toNat = S at *
    have xe : maY c P D.1 D'.1 i S = maD (fun j => (maO D'.1 S j && P i j) && decide (maV c (maR c P D.1 D'.1 (D.1 - i - 1).toNat) i S j = maR c P D.1 D'.1 (D.1 - i).toNat S)) 9 (-1) := rfl
    rw [zz.1] at ss xe
    obtain ⟨Z, hZ⟩ : ∃ Z, Z = maZ c D.1 D'.1 m f g i := ⟨_, rfl⟩
    rw [← hZ] at ss xe zz
    rw [k274_17]
    simp +decide (maxSteps := 4000000) (disch := omega) only [k274_0, k274_3, k274_4, k274_5, k274_6, k274_10, k274_11, k274_12, k274_13, k274_14, k274_15, k274_16, k274_19, k274_20, k274_21, k274_22, k274_23, k274_24, k274_25, k274_r, k274_s, F_al0, T_getR, F_il1, X_iald, F_is3i, F_is3r, F_is3m, T_I, F_is4i, F_is4r, F_is4m, T_ft, F_il4, T_icge, F_is5i, F_is5r, F_is5m, F_is6i, F_is6r, F_is6m, F_il6, F_il2, F_il5, T_shr, T_and, J_ifne, T_goto, T_add, F_inc6i, F_inc6r, F_inc6m, F_il3, T_mul, T_iast, F_inc4i, F_inc4r, F_inc4m, T_sub, J_iflt, F_is7i, F_is7r, F_is7m, F_il7, J_ifeq, F_is8i, F_is8r, F_is8m, F_il8, F_inc7i, F_inc7r, F_inc7m, F_inc5i, F_inc5r, F_inc5m, J_icne, T_shl, T_or, T_ret, c275, c276, c277, ↓s275, ↓s277, FM F, show ¬ D.1 ≤ i by omega, ↓reduceIte, TK, lt_run hn, le43, Int.le_refl, Int.lt_irrefl, Option.some.injEq, exists_eq_left', true_and, and_true, if_true, if_false, decide_eq_false_iff_not, decide_eq_true_eq, Nat.reduceAdd, Nat.reduceLeDiff, Nat.reduceLT, Int.reduceAdd, Int.reduceSub, Int.reduceMul, Int.reduceNeg, not_true_eq_false, not_false_eq_true]
    refine T_down (σ := Int × Value) (fun j p => [.ref 704, .int (J d), .int (J e), .int (J D.1), .int (J S), .int (J i), .int (J p.1), .int (J j), p.2]) (fun j p h'' => h'' = h' ∧ Z = maD (fun j => (maO D'.1 S j && P i j) && decide (maV c (maR c P D.1 D'.1 (D.1 - i - 1).toNat) i S j = maR c P D.1 D'.1 (D.1 - i).toNat S)) (j + 1).toNat p.1) (-1) 8 ?_ ?_ 8 (-1, v8) h' (by omega) (by omega) ⟨rfl, xe⟩
    · rintro j ⟨p, v8⟩ h2 j0 j1 ⟨rfl, px⟩ ihj
      try dsimp only at px ⊢
      rw [maD_s (by omega)] at px
      have t1 := fun {Q} => s275 (E := E) (h := h2) (hr := hr) (Q := Q) F hn he r2 (j := j) (S := S) (by omega) (by omega) q2
      have vj := V (D.1 - i - 1).toNat i S j
      have tr := maR_r H (P := P) (D.1 - i).toNat S
      have tl : gA h2 739 (256 * i + S) = J (maR c P D.1 D'.1 (D.1 - i).toNat S) := e6 i S (by omega) (by omega) (by omega) (by omega)
      have ih' : ∀ v p', Z = maD (fun j => (maO D'.1 S j && P i j) && decide (maV c (maR c P D.1 D'.1 (D.1 - i - 1).toNat) i S j = maR c P D.1 D'.1 (D.1 - i).toNat S)) j.toNat p' → _ := fun v p' z => ihj (p', v) h2 ⟨rfl, by rw [show j - 1 + 1 = j by omega]; exact z⟩
      try dsimp only at ih'
      cases ho : maO D'.1 S j with
      | false =>
        rw [ho, Bool.false_and, Bool.false_and, if_neg (by decide)] at px
        rw [k274_18]
        simp +decide (maxSteps := 4000000) (disch := omega) only [k274_0, k274_3, k274_4, k274_5, k274_6, k274_10, k274_11, k274_12, k274_13, k274_14, k274_15, k274_16, k274_19, k274_20, k274_21, k274_22, k274_23, k274_24, k274_25, k274_r, k274_s, F_al0, T_getR, F_il1, X_iald, F_is3i, F_is3r, F_is3m, T_I, F_is4i, F_is4r, F_is4m, T_ft, F_il4, T_icge, F_is5i, F_is5r, F_is5m, F_is6i, F_is6r, F_is6m, F_il6, F_il2, F_il5, T_shr, T_and, J_ifne, T_goto, T_add, F_inc6i, F_inc6r, F_inc6m, F_il3, T_mul, T_iast, F_inc4i, F_inc4r, F_inc4m, T_sub, J_iflt, F_is7i, F_is7r, F_is7m, F_il7, J_ifeq, F_is8i, F_is8r, F_is8m, F_il8, F_inc7i, F_inc7r, F_inc7m, F_inc5i, F_inc5r, F_inc5m, J_icne, T_shl, T_or, T_ret, c275, c276, c277, FM F, t1, ho, Bz_f, show ¬ j < 0 by omega, show 0 ≤ j by omega, ↓reduceIte, TK, lt_run hn, le43, Int.le_refl, Int.lt_irrefl, Option.some.injEq, exists_eq_left', true_and, and_true, if_true, if_false, decide_eq_false_iff_not, decide_eq_true_eq, Nat.reduceAdd, Nat.reduceLeDiff, Nat.reduceLT, Int.reduceAdd, Int.reduceSub, Int.reduceMul, Int.reduceNeg, not_true_eq_false, not_false_eq_true]
        exact ih' _ _ px
      | true =>
        rw [ho, Bool.true_and] at px
        rw [k274_18]
        simp +decide (maxSteps := 4000000) (disch := omega) only [k274_0, k274_3, k274_4, k274_5, k274_6, k274_10, k274_11, k274_12, k274_13, k274_14, k274_15, k274_16, k274_19, k274_20, k274_21, k274_22, k274_23, k274_24, k274_25, k274_r, k274_s, F_al0, T_getR, F_il1, X_iald, F_is3i, F_is3r, F_is3m, T_I, F_is4i, F_is4r, F_is4m, T_ft, F_il4, T_icge, F_is5i, F_is5r, F_is5m, F_is6i, F_is6r, F_is6m, F_il6, F_il2, F_il5, T_shr, T_and, J_ifne, T_goto, T_add, F_inc6i, F_inc6r, F_inc6m, F_il3, T_mul, T_iast, F_inc4i, F_inc4r, F_inc4m, T_sub, J_iflt, F_is7i, F_is7r, F_is7m, F_il7, J_ifeq, F_is8i, F_is8r, F_is8m, F_il8, F_inc7i, F_inc7r, F_inc7m, F_inc5i, F_inc5r, F_inc5m, J_icne, T_shl, T_or, T_ret, c275, c276, c277, FM F, t1, ho, Bz_t, show ¬ j < 0 by omega, show 0 ≤ j by omega, ↓reduceIte, TK, lt_run hn, le43, Int.le_refl, Int.lt_irrefl, Option.some.injEq, exists_eq_left', true_and, and_true, if_true, if_false, decide_eq_false_iff_not, decide_eq_true_eq, Nat.reduceAdd, Nat.reduceLeDiff, Nat.reduceLT, Int.reduceAdd, Int.reduceSub, Int.reduceMul, Int.reduceNeg, not_true_eq_false, not_false_eq_true]
        refine may _ i j e5 (by omega) (by omega) ?_
        have hj : (0 ≤ j ∧ j < D'.1) ∨ j = 8 := by
          rcases maO_i.mp ho with z | z
          · exact Or.inl ⟨by omega, z.1⟩
          · exact Or.inr z
        cases hp : P i j with
        | false =>
          rw [hp, Bool.false_and, if_neg (by decide)] at px
          simp +decide (maxSteps := 4000000) (disch := omega) only [k274_0, k274_3, k274_4, k274_5, k274_6, k274_10, k274_11, k274_12, k274_13, k274_14, k274_15, k274_16, k274_19, k274_20, k274_21, k274_22, k274_23, k274_24, k274_25, k274_r, k274_s, F_al0, T_getR, F_il1, X_iald, F_is3i, F_is3r, F_is3m, T_I, F_is4i, F_is4r, F_is4m, T_ft, F_il4, T_icge, F_is5i, F_is5r, F_is5m, F_is6i, F_is6r, F_is6m, F_il6, F_il2, F_il5, T_shr, T_and, J_ifne, T_goto, T_add, F_inc6i, F_inc6r, F_inc6m, F_il3, T_mul, T_iast, F_inc4i, F_inc4r, F_inc4m, T_sub, J_iflt, F_is7i, F_is7r, F_is7m, F_il7, J_ifeq, F_is8i, F_is8r, F_is8m, F_il8, F_inc7i, F_inc7r, F_inc7m, F_inc5i, F_inc5r, F_inc5m, J_icne, T_shl, T_or, T_ret, c275, c276, c277, Bz_f, ↓reduceIte, TK, lt_run hn, le43, Int.le_refl, Int.lt_irrefl, Option.some.injEq, exists_eq_left', true_and, and_true, if_true, if_false, decide_eq_false_iff_not, decide_eq_true_eq, Nat.reduceAdd, Nat.reduceLeDiff, Nat.reduceLT, Int.reduceAdd, Int.reduceSub, Int.reduceMul, Int.reduceNeg, not_true_eq_false, not_false_eq_true]
          exact ih' _ _ px
        | true =>
          rw [hp, Bool.true_and] at px
          have t2 := fun {Q} => wp h2 i j S (Q := Q) e5 (by omega) hj (by omega) (fun i' S' x0 x1 x2 x3 => e6 i' S' (by omega) x1 x2 x3)
          by_cases z : maV c (maR c P D.1 D'.1 (D.1 - i - 1).toNat) i S j = maR c P D.1 D'.1 (D.1 - i).toNat S
          · rw [decide_eq_true z, if_pos (by decide)] at px
            simp +decide (maxSteps := 4000000) (disch := omega) only [k274_0, k274_3, k274_4, k274_5, k274_6, k274_10, k274_11, k274_12, k274_13, k274_14, k274_15, k274_16, k274_19, k274_20, k274_21, k274_22, k274_23, k274_24, k274_25, k274_r, k274_s, F_al0, T_getR, F_il1, X_iald, F_is3i, F_is3r, F_is3m, T_I, F_is4i, F_is4r, F_is4m, T_ft, F_il4, T_icge, F_is5i, F_is5r, F_is5m, F_is6i, F_is6r, F_is6m, F_il6, F_il2, F_il5, T_shr, T_and, J_ifne, T_goto, T_add, F_inc6i, F_inc6r, F_inc6m, F_il3, T_mul, T_iast, F_inc4i, F_inc4r, F_inc4m, T_sub, J_iflt, F_is7i, F_is7r, F_is7m, F_il7, J_ifeq, F_is8i, F_is8r, F_is8m, F_il8, F_inc7i, F_inc7r, F_inc7m, F_inc5i, F_inc5r, F_inc5m, J_icne, T_shl, T_or, T_ret, c275, c276, c277, FM F, Bz_t, t2, tl, z, ln_739, ↓reduceIte, TK, lt_run hn, le43, Int.le_refl, Int.lt_irrefl, Option.some.injEq, exists_eq_left', true_and, and_true, if_true, if_false, decide_eq_false_iff_not, decide_eq_true_eq, Nat.reduceAdd, Nat.reduceLeDiff, Nat.reduceLT, Int.reduceAdd, Int.reduceSub, Int.reduceMul, Int.reduceNeg, not_true_eq_false, not_false_eq_true]
            exact ih' _ _ px
          · rw [decide_eq_false z, if_neg (by decide)] at px
            simp +decide (maxSteps := 4000000) (disch := omega) only [k274_0, k274_3, k274_4, k274_5, k274_6, k274_10, k274_11, k274_12, k274_13, k274_14, k274_15, k274_16, k274_19, k274_20, k274_21, k274_22, k274_23, k274_24, k274_25, k274_r, k274_s, F_al0, T_getR, F_il1, X_iald, F_is3i, F_is3r, F_is3m, T_I, F_is4i, F_is4r, F_is4m, T_ft, F_il4, T_icge, F_is5i, F_is5r, F_is5m, F_is6i, F_is6r, F_is6m, F_il6, F_il2, F_il5, T_shr, T_and, J_ifne, T_goto, T_add, F_inc6i, F_inc6r, F_inc6m, F_il3, T_mul, T_iast, F_inc4i, F_inc4r, F_inc4m, T_sub, J_iflt, F_is7i, F_is7r, F_is7m, F_il7, J_ifeq, F_is8i, F_is8r, F_is8m, F_il8, F_inc7i, F_inc7r, F_inc7m, F_inc5i, F_inc5r, F_inc5m, J_icne, T_shl, T_or, T_ret, c275, c276, c277, FM F, Bz_t, t2, tl, z, ln_739, ↓reduceIte, TK, lt_run hn, le43, Int.le_refl, Int.lt_irrefl, Option.some.injEq, exists_eq_left', true_and, and_true, if_true, if_false, decide_eq_false_iff_not, decide_eq_true_eq, Nat.reduceAdd, Nat.reduceLeDiff, Nat.reduceLT, Int.reduceAdd, Int.reduceSub, Int.reduceMul, Int.reduceNeg, not_true_eq_false, not_false_eq_true]
            exact ih' _ _ px
    · rintro ⟨p, v8⟩ h2 ⟨rfl, px⟩
      try dsimp only at px ⊢
      rw [show (-1 + 1 : Int).toNat = 0 from rfl] at px
      change Z = p at px
      subst px
      have core : Ef (fun x _ => x = 741) h1 (sA h2 741 i (J Z)) ∧ ∀ i', 0 ≤ i' → i' < i + 1 → gA (sA h2 741 i (J Z)) 741 i' = J (maZ c D.1 D'.1 m f g i') := by
        refine ⟨Ef.sA e3 rfl, fun i' x0 x1 => ?_⟩
        by_cases z : i' = i
        · rw [z, gs_s, hZ]
        · rw [gs_k (by omega) (by omega) (by omega)]
          exact e4 i' x0 (by omega)
      have ih' := fun v => ih v _ core
      try dsimp only at ih'
      rw [ss] at ih'
      by_cases g8 : Z < 8
      · rw [if_pos g8] at ih'
        have o1 := mor (S := S) (j := Z) (by omega) (by omega)
        rw [k274_18]
        simp +decide (maxSteps := 4000000) (disch := omega) only [k274_0, k274_3, k274_4, k274_5, k274_6, k274_10, k274_11, k274_12, k274_13, k274_14, k274_15, k274_16, k274_19, k274_20, k274_21, k274_22, k274_23, k274_24, k274_25, k274_r, k274_s, F_al0, T_getR, F_il1, X_iald, F_is3i, F_is3r, F_is3m, T_I, F_is4i, F_is4r, F_is4m, T_ft, F_il4, T_icge, F_is5i, F_is5r, F_is5m, F_is6i, F_is6r, F_is6m, F_il6, F_il2, F_il5, T_shr, T_and, J_ifne, T_goto, T_add, F_inc6i, F_inc6r, F_inc6m, F_il3, T_mul, T_iast, F_inc4i, F_inc4r, F_inc4m, T_sub, J_iflt, F_is7i, F_is7r, F_is7m, F_il7, J_ifeq, F_is8i, F_is8r, F_is8m, F_il8, F_inc7i, F_inc7r, F_inc7m, F_inc5i, F_inc5r, F_inc5m, J_icne, T_shl, T_or, T_ret, c275, c276, c277, ↓s275, ↓s277, FM F, ln_741, o1, g8, show ¬ 8 ≤ Z by omega, ↓reduceIte, TK, lt_run hn, le43, Int.le_refl, Int.lt_irrefl, Option.some.injEq, exists_eq_left', true_and, and_true, if_true, if_false, decide_eq_false_iff_not, decide_eq_true_eq, Nat.reduceAdd, Nat.reduceLeDiff, Nat.reduceLT, Int.reduceAdd, Int.reduceSub, Int.reduceMul, Int.reduceNeg, not_true_eq_false, not_false_eq_true]
        exact ih' (_, _, _)
      · rw [if_neg g8] at ih'
        rw [k274_18]
        simp +decide (maxSteps := 4000000) (disch := omega) only [k274_0, k274_3, k274_4, k274_5, k274_6, k274_10, k274_11, k274_12, k274_13, k274_14, k274_15, k274_16, k274_19, k274_20, k274_21, k274_22, k274_23, k274_24, k274_25, k274_r, k274_s, F_al0, T_getR, F_il1, X_iald, F_is3i, F_is3r, F_is3m, T_I, F_is4i, F_is4r, F_is4m, T_ft, F_il4, T_icge, F_is5i, F_is5r, F_is5m, F_is6i, F_is6r, F_is6m, F_il6, F_il2, F_il5, T_shr, T_and, J_ifne, T_goto, T_add, F_inc6i, F_inc6r, F_inc6m, F_il3, T_mul, T_iast, F_inc4i, F_inc4r, F_inc4m, T_sub, J_iflt, F_is7i, F_is7r, F_is7m, F_il7, J_ifeq, F_is8i, F_is8r, F_is8m, F_il8, F_inc7i, F_inc7r, F_inc7m, F_inc5i, F_inc5r, F_inc5m, J_icne, T_shl, T_or, T_ret, c275, c276, c277, ↓s275, ↓s277, FM F, ln_741, g8, show 8 ≤ Z by omega, ↓reduceIte, TK, lt_run hn, le43, Int.le_refl, Int.lt_irrefl, Option.some.injEq, exists_eq_left', true_and, and_true, if_true, if_false, decide_eq_false_iff_not, decide_eq_true_eq, Nat.reduceAdd, Nat.reduceLeDiff, Nat.reduceLT, Int.reduceAdd, Int.reduceSub, Int.reduceMul, Int.reduceNeg, not_true_eq_false, not_false_eq_true]
        exact ih' (_, _, _)
  · rintro ⟨v6, v7, v8⟩ h' ⟨e3, e4⟩
    dsimp only
    obtain ⟨e5, e6⟩ := e739 h' e3
    have l0 : gA h' 739 0 = J (maR c P D.1 D'.1 D.1.toNat 0) := by
      have := e6 0 0 (by omega) (by omega) (by omega) (by omega)
      rw [show D.1 - 0 = D.1 by omega] at this
      exact this
    rw [k274_17]
    simp +decide (maxSteps := 4000000) (disch := omega) only [k274_0, k274_3, k274_4, k274_5, k274_6, k274_10, k274_11, k274_12, k274_13, k274_14, k274_15, k274_16, k274_19, k274_20, k274_21, k274_22, k274_23, k274_24, k274_25, k274_r, k274_s, F_al0, T_getR, F_il1, X_iald, F_is3i, F_is3r, F_is3m, T_I, F_is4i, F_is4r, F_is4m, T_ft, F_il4, T_icge, F_is5i, F_is5r, F_is5m, F_is6i, F_is6r, F_is6m, F_il6, F_il2, F_il5, T_shr, T_and, J_ifne, T_goto, T_add, F_inc6i, F_inc6r, F_inc6m, F_il3, T_mul, T_iast, F_inc4i, F_inc4r, F_inc4m, T_sub, J_iflt, F_is7i, F_is7r, F_is7m, F_il7, J_ifeq, F_is8i, F_is8r, F_is8m, F_il8, F_inc7i, F_inc7r, F_inc7m, F_inc5i, F_inc5r, F_inc5m, J_icne, T_shl, T_or, T_ret, c275, c276, c277, ↓s275, ↓s277, FM F, l0, ln_739, ↓reduceIte, TK, lt_run hn, le43, Int.le_refl, Int.lt_irrefl, Option.some.injEq, exists_eq_left', true_and, and_true, if_true, if_false, decide_eq_false_iff_not, decide_eq_true_eq, Nat.reduceAdd, Nat.reduceLeDiff, Nat.reduceLT, Int.reduceAdd, Int.reduceSub, Int.reduceMul, Int.reduceNeg, not_true_eq_false, not_false_eq_true]
    exact k h' e5 e4
end MF
