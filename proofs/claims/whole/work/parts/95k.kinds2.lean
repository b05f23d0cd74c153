/-! node: the kind that is named -/
abbrev aln (x : Int) : Prop := (97 ≤ x ∧ x ≤ 122) ∨ (48 ≤ x ∧ x ≤ 57)
def ane (b : Int → Int) (t : Int) : Nat → Int → Int
  | 0, p => p
  | q + 1, p => if aln (bt b t p) then ane b t q (p + 1) else p
section KE2
variable {E : AEn} {h h' : AHi} {hr : AHr} {n : Nat} {Q : ARs → Prop} {t p f m w e : Int} {b V : Int → Int} {k : Nat}
theorem ane_u (h2 : ¬ aln (bt b t e)) : ∀ (q : Nat) (p : Int), p ≤ e → e ≤ p + q → (∀ j, p ≤ j → j < e → aln (bt b t j)) → ane b t q p = e := by
  intro q
  induction q with
  | zero => intro p p0 p1 _; unfold ane; omega
  | succ q ih =>
    intro p p0 p1 h1
    unfold ane
    rcases (show p = e ∨ p < e by omega) with z | z
    · rw [z, if_neg h2]
    · rw [if_pos (h1 p (by omega) z)]
      exact ih (p + 1) (by omega) (by omega) (fun j j0 j1 => h1 j (by omega) j1)
theorem aln_in (g : aln (bt b t p)) : 0 ≤ p ∧ p < t := bt_in (b := b) (t := t) (i := p) (by unfold aln at g; omega)
theorem w91 (F : FH hr) (hn : 775 ≤ n) (T : TpC h t b)
    (k1 : ∀ k e, k < 8 → e = ane b t 1601 0 → 0 ≤ e → e ≤ t → isNm b t k 0 e → (∀ j, j < k → ¬ isNm b t j 0 e) → Q (some (.ref (4 + k)), RS h e (-1), hr, n))
    (k2 : ∀ e, e = ane b t 1601 0 → 0 ≤ e → e ≤ t → (∀ j, j < 8 → ¬ isNm b t j 0 e) → Q (some (.ref 4), RS h e 0, hr, n)) : Sp E 91 [.ref 44] (RS h 0 (-1)) hr n Q := by
  have t1 := T.1
  simp +decide (maxSteps := 4000000) (disch := omega) only [k91_0, k91_2, k91_3, k91_5, k91_6, k91_r, k91_s, F_al0, T_getI, F_is1i, F_is1r, F_is1m, T_I, F_is2i, F_is2r, F_is2m, T_ft, F_il2, T_icge, J_ifne, T_goto, T_dupI, T_dupR, T_add, T_putI, T_putZ, F_inc2i, F_inc2r, F_inc2m, T_cR, J_alen, X_aald, F_il1, J_ifeq, T_ret, c17, c18, c338, ↓s17, ↓s18, RX, kd_44, ↓reduceIte, TK, lt_run hn, le43, Int.le_refl, Int.lt_irrefl, Option.some.injEq, exists_eq_left', true_and, and_true, if_true, if_false, decide_eq_false_iff_not, decide_eq_true_eq, Nat.reduceAdd, Nat.reduceLeDiff, Nat.reduceLT, Int.reduceAdd, Int.reduceSub, Int.reduceMul, Int.reduceNeg, not_true_eq_false, not_false_eq_true]
  refine T_wh (σ := Int) (fun k => [.ref 44, .int (J 0), .int (J k)]) (fun k h' => h' = RS h k (-1) ∧ (0 ≤ k ∧ k ≤ t) ∧ ∀ j, 0 ≤ j → j < k → aln (bt b t j)) (fun k _ => (1601 - k).toNat) ?_ 0 _ ⟨rfl, by omega, fun j j0 j1 => by omega⟩
  rintro k _ ⟨rfl, ⟨k0, k3⟩, k4⟩ ih
  have bk := bt_r (t := t) T.2.1 k
  by_cases g : aln (bt b t k)
  · have hin := aln_in g
    have fin := ih (k + 1) (RS h (k + 1) (-1)) ⟨rfl, by omega, fun j j0 j1 => by
      rcases (show j < k ∨ j = k by omega) with z | z
      · exact k4 j j0 z
      · rw [z]
        exact g⟩ (by omega)
    by_cases g1 : 97 ≤ bt b t k ∧ bt b t k ≤ 122
    · rw [k91_1]
      simp +decide (maxSteps := 4000000) (disch := omega) only [k91_0, k91_2, k91_3, k91_5, k91_6, k91_r, k91_s, F_al0, T_getI, F_is1i, F_is1r, F_is1m, T_I, F_is2i, F_is2r, F_is2m, T_ft, F_il2, T_icge, J_ifne, T_goto, T_dupI, T_dupR, T_add, T_putI, T_putZ, F_inc2i, F_inc2r, F_inc2m, T_cR, J_alen, X_aald, F_il1, J_ifeq, T_ret, c17, c18, c338, ↓s18, RX, ↓s17 F hn T, g1, kd_44, show ¬ 1600 ≤ k by omega, ↓reduceIte, TK, lt_run hn, le43, Int.le_refl, Int.lt_irrefl, Option.some.injEq, exists_eq_left', true_and, and_true, if_true, if_false, decide_eq_false_iff_not, decide_eq_true_eq, Nat.reduceAdd, Nat.reduceLeDiff, Nat.reduceLT, Int.reduceAdd, Int.reduceSub, Int.reduceMul, Int.reduceNeg, not_true_eq_false, not_false_eq_true]
      exact fin
    · have g2 : 48 ≤ bt b t k ∧ bt b t k ≤ 57 := g.resolve_left g1
      rw [k91_1]
      simp +decide (maxSteps := 4000000) (disch := omega) only [k91_0, k91_2, k91_3, k91_5, k91_6, k91_r, k91_s, F_al0, T_getI, F_is1i, F_is1r, F_is1m, T_I, F_is2i, F_is2r, F_is2m, T_ft, F_il2, T_icge, J_ifne, T_goto, T_dupI, T_dupR, T_add, T_putI, T_putZ, F_inc2i, F_inc2r, F_inc2m, T_cR, J_alen, X_aald, F_il1, J_ifeq, T_ret, c17, c18, c338, ↓s18, RX, ↓s17 F hn T, g1, g2, kd_44, show ¬ 1600 ≤ k by omega, ↓reduceIte, TK, lt_run hn, le43, Int.le_refl, Int.lt_irrefl, Option.some.injEq, exists_eq_left', true_and, and_true, if_true, if_false, decide_eq_false_iff_not, decide_eq_true_eq, Nat.reduceAdd, Nat.reduceLeDiff, Nat.reduceLT, Int.reduceAdd, Int.reduceSub, Int.reduceMul, Int.reduceNeg, not_true_eq_false, not_false_eq_true]
      exact fin
  have es : k = ane b t 1601 0 := (ane_u g 1601 0 (by omega) (by omega) k4).symm
  have three : Tm E 91 (a_bl 91 3) [.ref 44, .int (J 0), .int (J k)] [] (RS h k (-1)) hr n Q := by
    rw [k91_3]
    simp +decide (maxSteps := 4000000) (disch := omega) only [k91_0, k91_2, k91_3, k91_5, k91_6, k91_r, k91_s, F_al0, T_getI, F_is1i, F_is1r, F_is1m, T_I, F_is2i, F_is2r, F_is2m, T_ft, F_il2, T_icge, J_ifne, T_goto, T_dupI, T_dupR, T_add, T_putI, T_putZ, F_inc2i, F_inc2r, F_inc2m, T_cR, J_alen, X_aald, F_il1, J_ifeq, T_ret, c17, c18, c338, ↓s17, ↓s18, ↓reduceIte, TK, lt_run hn, le43, Int.le_refl, Int.lt_irrefl, Option.some.injEq, exists_eq_left', true_and, and_true, if_true, if_false, decide_eq_false_iff_not, decide_eq_true_eq, Nat.reduceAdd, Nat.reduceLeDiff, Nat.reduceLT, Int.reduceAdd, Int.reduceSub, Int.reduceMul, Int.reduceNeg, not_true_eq_false, not_false_eq_true]
    refine T_for (σ := Unit) (fun i _ => [.ref 44, .int (J 0), .int (J i)]) (fun i _ h' => h' = RS h k (-1) ∧ ∀ j : Nat, (j : Int) < i → ¬ isNm b t j 0 k) 0 8 ?_ ?_ 0 () _ (by omega) (by omega) ⟨rfl, fun j _ => by omega⟩
    · rintro i _ _ i0 i1 ⟨rfl, a1⟩ ih2
      have y1 : rY hr 3 (J i) = some (4 + i.toNat) := by
        unfold rY
        rw [J_clamp (by omega) (by omega), rR_c (by decide)]
        exact (nm_t i.toNat (by omega)).1.2.2.2
      have y2 := (nm_t i.toNat (by omega)).1.1
      have y3 : 4 + i.toNat < n := by omega
      have y4 : a_ln E 3 = 8 := rfl
      have y5 : a_kd 3 = 42 := rfl
      have y6 : ¬ ((8 : Nat) : Int) ≤ i := by omega
      rw [k91_4]
      simp +decide (maxSteps := 4000000) (disch := omega) only [k91_0, k91_2, k91_3, k91_5, k91_6, k91_r, k91_s, F_al0, T_getI, F_is1i, F_is1r, F_is1m, T_I, F_is2i, F_is2r, F_is2m, T_ft, F_il2, T_icge, J_ifne, T_goto, T_dupI, T_dupR, T_add, T_putI, T_putZ, F_inc2i, F_inc2r, F_inc2m, T_cR, J_alen, X_aald, F_il1, J_ifeq, T_ret, c17, c18, c338, ↓s17, ↓s18, RX, y1, y2, y3, y4, y5, y6, kd_44, ↓reduceIte, TK, lt_run hn, le43, Int.le_refl, Int.lt_irrefl, Option.some.injEq, exists_eq_left', true_and, and_true, if_true, if_false, decide_eq_false_iff_not, decide_eq_true_eq, Nat.reduceAdd, Nat.reduceLeDiff, Nat.reduceLT, Int.reduceAdd, Int.reduceSub, Int.reduceMul, Int.reduceNeg, not_true_eq_false, not_false_eq_true]
      refine w338 (p := 0) (e := k) F hn (k := i.toNat) (by omega) T (by omega) (by omega) (fun g1 => ?_) (fun g1 => ?_)
      · have fin := k1 i.toNat k (by omega) es k0 k3 g1 (fun j jj => a1 j (by omega))
        simp +decide (maxSteps := 4000000) (disch := omega) only [k91_0, k91_2, k91_3, k91_5, k91_6, k91_r, k91_s, F_al0, T_getI, F_is1i, F_is1r, F_is1m, T_I, F_is2i, F_is2r, F_is2m, T_ft, F_il2, T_icge, J_ifne, T_goto, T_dupI, T_dupR, T_add, T_putI, T_putZ, F_inc2i, F_inc2r, F_inc2m, T_cR, J_alen, X_aald, F_il1, J_ifeq, T_ret, c17, c18, c338, ↓s17, ↓s18, y1, y2, y3, y4, y5, ↓reduceIte, TK, lt_run hn, le43, Int.le_refl, Int.lt_irrefl, Option.some.injEq, exists_eq_left', true_and, and_true, if_true, if_false, decide_eq_false_iff_not, decide_eq_true_eq, Nat.reduceAdd, Nat.reduceLeDiff, Nat.reduceLT, Int.reduceAdd, Int.reduceSub, Int.reduceMul, Int.reduceNeg, not_true_eq_false, not_false_eq_true]
        exact fin
      · simp +decide (maxSteps := 4000000) (disch := omega) only [k91_0, k91_2, k91_3, k91_5, k91_6, k91_r, k91_s, F_al0, T_getI, F_is1i, F_is1r, F_is1m, T_I, F_is2i, F_is2r, F_is2m, T_ft, F_il2, T_icge, J_ifne, T_goto, T_dupI, T_dupR, T_add, T_putI, T_putZ, F_inc2i, F_inc2r, F_inc2m, T_cR, J_alen, X_aald, F_il1, J_ifeq, T_ret, c17, c18, c338, ↓s17, ↓s18, ↓reduceIte, TK, lt_run hn, le43, Int.le_refl, Int.lt_irrefl, Option.some.injEq, exists_eq_left', true_and, and_true, if_true, if_false, decide_eq_false_iff_not, decide_eq_true_eq, Nat.reduceAdd, Nat.reduceLeDiff, Nat.reduceLT, Int.reduceAdd, Int.reduceSub, Int.reduceMul, Int.reduceNeg, not_true_eq_false, not_false_eq_true]
        refine ih2 () _ ⟨rfl, fun j jj => ?_⟩
        rcases (show (j : Int) < i ∨ j = i.toNat by omega) with z | z
        · exact a1 j z
        · rw [z]
          exact g1
    · rintro _ _ ⟨rfl, a1⟩
      have y4 : a_ln E 3 = 8 := rfl
      have y5 : a_kd 3 = 42 := rfl
      have fin := k2 k es k0 k3 (fun j jj => a1 j (by omega))
      have y6 : ((8 : Nat) : Int) ≤ 8 := by omega
      rw [k91_4]
      simp +decide (maxSteps := 4000000) (disch := omega) only [k91_0, k91_2, k91_3, k91_5, k91_6, k91_r, k91_s, F_al0, T_getI, F_is1i, F_is1r, F_is1m, T_I, F_is2i, F_is2r, F_is2m, T_ft, F_il2, T_icge, J_ifne, T_goto, T_dupI, T_dupR, T_add, T_putI, T_putZ, F_inc2i, F_inc2r, F_inc2m, T_cR, J_alen, X_aald, F_il1, J_ifeq, T_ret, c17, c18, c338, ↓s17, y4, y5, y6, ↓s18 F hn, rf_y, kd_44, ↓reduceIte, TK, lt_run hn, le43, Int.le_refl, Int.lt_irrefl, Option.some.injEq, exists_eq_left', true_and, and_true, if_true, if_false, decide_eq_false_iff_not, decide_eq_true_eq, Nat.reduceAdd, Nat.reduceLeDiff, Nat.reduceLT, Int.reduceAdd, Int.reduceSub, Int.reduceMul, Int.reduceNeg, not_true_eq_false, not_false_eq_true]
      exact fin
  by_cases z : 1600 ≤ k
  · rw [k91_1]
    simp +decide (maxSteps := 4000000) (disch := omega) only [k91_0, k91_2, k91_5, k91_6, k91_r, k91_s, F_al0, T_getI, F_is1i, F_is1r, F_is1m, T_I, F_is2i, F_is2r, F_is2m, T_ft, F_il2, T_icge, J_ifne, T_goto, T_dupI, T_dupR, T_add, T_putI, T_putZ, F_inc2i, F_inc2r, F_inc2m, T_cR, J_alen, X_aald, F_il1, J_ifeq, T_ret, c17, c18, c338, ↓s17, ↓s18, z, ↓reduceIte, TK, lt_run hn, le43, Int.le_refl, Int.lt_irrefl, Option.some.injEq, exists_eq_left', true_and, and_true, if_true, if_false, decide_eq_false_iff_not, decide_eq_true_eq, Nat.reduceAdd, Nat.reduceLeDiff, Nat.reduceLT, Int.reduceAdd, Int.reduceSub, Int.reduceMul, Int.reduceNeg, not_true_eq_false, not_false_eq_true]
    exact three
  · have g1 : ¬ (97 ≤ bt b t k ∧ bt b t k ≤ 122) := fun q => g (Or.inl q)
    have g2 : ¬ (48 ≤ bt b t k ∧ bt b t k ≤ 57) := fun q => g (Or.inr q)
    rw [k91_1]
    simp +decide (maxSteps := 4000000) (disch := omega) only [k91_0, k91_2, k91_5, k91_6, k91_r, k91_s, F_al0, T_getI, F_is1i, F_is1r, F_is1m, T_I, F_is2i, F_is2r, F_is2m, T_ft, F_il2, T_icge, J_ifne, T_goto, T_dupI, T_dupR, T_add, T_putI, T_putZ, F_inc2i, F_inc2r, F_inc2m, T_cR, J_alen, X_aald, F_il1, J_ifeq, T_ret, c17, c18, c338, ↓s18, ↓s17 F hn T, g1, g2, z, kd_44, ↓reduceIte, TK, lt_run hn, le43, Int.le_refl, Int.lt_irrefl, Option.some.injEq, exists_eq_left', true_and, and_true, if_true, if_false, decide_eq_false_iff_not, decide_eq_true_eq, Nat.reduceAdd, Nat.reduceLeDiff, Nat.reduceLT, Int.reduceAdd, Int.reduceSub, Int.reduceMul, Int.reduceNeg, not_true_eq_false, not_false_eq_true]
    exact three
end KE2
