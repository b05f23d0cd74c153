/-! told -/
/-- how long a run is, from n on -/
def rlf (N : Int) (R : Int → Int) (f : Int) : Nat → Int → Int
  | 0, k => k
  | q + 1, k => if k < 99 ∧ f + k < N ∧ R (f + k) = R f then rlf N R f q (k + 1) else k
def rl (N : Int) (R : Int → Int) (f : Int) : Int := rlf N R f 98 1
/-- what is told of a run -/
def itm (f d k : Int) : List Int := (if 0 < f then [32] else []) ++ (if d = -1 then [45] else dig d) ++ (if 1 < k then 42 :: dig k else [])
def tlt (N : Int) (R : Int → Int) : Nat → Int → List Int
  | 0, _ => []
  | q + 1, f => if f < N then itm f (R f) (rl N R f) ++ tlt N R q (f + rl N R f) else []
theorem rlf_u {N : Int} {R : Int → Int} {f k : Int} (h0 : k ≤ 99) (h1 : ∀ j, 1 ≤ j → j < k → j < 99 ∧ f + j < N ∧ R (f + j) = R f) (h2 : ¬ (k < 99 ∧ f + k < N ∧ R (f + k) = R f)) : ∀ (q : Nat) (m : Int), 1 ≤ m → m ≤ k → k ≤ m + q → rlf N R f q m = k := by
  intro q
  induction q with
  | zero => intro m m0 m1 m2; unfold rlf; omega
  | succ q ih =>
    intro m m0 m1 m2
    unfold rlf
    rcases (show m = k ∨ m < k by omega) with e | e
    · rw [e, if_neg h2]
    · rw [if_pos (h1 m m0 e)]
      exact ih (m + 1) (by omega) (by omega) (by omega)
theorem rl_u {N : Int} {R : Int → Int} {f k : Int} (hk : 1 ≤ k) (h0 : k ≤ 99) (h1 : ∀ j, 1 ≤ j → j < k → j < 99 ∧ f + j < N ∧ R (f + j) = R f) (h2 : ¬ (k < 99 ∧ f + k < N ∧ R (f + k) = R f)) : rl N R f = k := rlf_u h0 h1 h2 98 1 (by omega) hk (by omega)
theorem itm_l {f d k : Int} (hk : 1 ≤ k) : 1 ≤ (itm f d k).length ∧ ((itm f d k).length : Int) ≤ 3 * k := by
  unfold itm
  have d1 := dig_l d
  have d2 := dig_l k
  rw [List.length_append, List.length_append]
  have e1 : (if 0 < f then [(32 : Int)] else []).length ≤ 1 := by split <;> decide
  have e2 : 1 ≤ (if d = -1 then [(45 : Int)] else dig d).length ∧ (if d = -1 then [(45 : Int)] else dig d).length ≤ 2 := by
    split
    · exact ⟨by decide, by decide⟩
    · exact d1
  by_cases g : 1 < k
  · have e3 : (if 1 < k then 42 :: dig k else []).length ≤ 3 := by
      rw [if_pos g]
      show (dig k).length + 1 ≤ 3
      omega
    omega
  · have e3 : (if 1 < k then 42 :: dig k else []).length = 0 := by
      rw [if_neg g]
      rfl
    omega
section TD
variable {E : AEn} {h h' : AHi} {hr : AHr} {n : Nat} {Q : ARs → Prop} {l : List Int} {r : Nat} {cap : Int}
theorem w65 (O : Or E hr n r cap) (hn : 775 ≤ n) (C : OC h r l) (hl : l.length + 6 ≤ cap) {f d k : Int} (hf : (0 < f) ↔ 0 < l.length) (hd : -1 ≤ d ∧ d ≤ 15) (hk : 1 ≤ k ∧ k ≤ 99) (kk : ∀ h', OC h' r (l ++ itm f d k) → Ef (Sw r) h h' → Q (none, h', hr, n)) : Sp E 65 [.ref 46, .int (J d), .int (J k)] h hr n Q := by
  have c0 := C.1
  have cc : (l.length : Int) ≤ 60000 := by
    rcases O.2 with q | q <;> omega
  have last : ∀ h2 l2, OC h2 r l2 → (l2.length : Int) + 3 ≤ cap → (∀ h', OC h' r (l2 ++ (if 1 < k then 42 :: dig k else [])) → Ef (Sw r) h2 h' → Q (none, h', hr, n)) → Tm E 65 (a_bl 65 3) [.ref 46, .int (J d), .int (J k)] [] h2 hr n Q := fun h2 l2 C2 hl2 k2 => by
    rw [k65_3]
    by_cases g : 1 < k
    · simp +decide (maxSteps := 4000000) (disch := omega) only [k65_0, k65_1, k65_2, k65_3, k65_4, k65_r, k65_s, F_al0, T_getI, J_ifle, T_I, T_ft, F_il1, J_icne, T_goto, F_il2, T_icle, T_ret, c11, c26, ↓s11, kd_46, show ¬ k ≤ 1 by omega, ↓reduceIte, TK, lt_run hn, le43, Int.le_refl, Int.lt_irrefl, Option.some.injEq, exists_eq_left', true_and, and_true, if_true, if_false, decide_eq_false_iff_not, decide_eq_true_eq, Nat.reduceAdd, Nat.reduceLeDiff, Nat.reduceLT, Int.reduceAdd, Int.reduceSub, Int.reduceMul, Int.reduceNeg, not_true_eq_false, not_false_eq_true]
      refine w11 O C2 (by omega) (fun h3 C3 e3 => ?_)
      simp +decide (maxSteps := 4000000) (disch := omega) only [k65_0, k65_1, k65_2, k65_3, k65_4, k65_r, k65_s, F_al0, T_getI, J_ifle, T_I, T_ft, F_il1, J_icne, T_goto, F_il2, T_icle, T_ret, c11, c26, ↓s11, kd_46, ↓reduceIte, TK, lt_run hn, le43, Int.le_refl, Int.lt_irrefl, Option.some.injEq, exists_eq_left', true_and, and_true, if_true, if_false, decide_eq_false_iff_not, decide_eq_true_eq, Nat.reduceAdd, Nat.reduceLeDiff, Nat.reduceLT, Int.reduceAdd, Int.reduceSub, Int.reduceMul, Int.reduceNeg, not_true_eq_false, not_false_eq_true]
      refine w26 O C3 (by rw [List.length_append]; show ((l2.length + 1 : Nat) : Int) + 2 ≤ cap; omega) (by omega) (fun h4 C4 e4 => ?_)
      simp +decide (maxSteps := 4000000) (disch := omega) only [k65_0, k65_1, k65_2, k65_3, k65_4, k65_r, k65_s, F_al0, T_getI, J_ifle, T_I, T_ft, F_il1, J_icne, T_goto, F_il2, T_icle, T_ret, c11, c26, ↓s11, ↓reduceIte, TK, lt_run hn, le43, Int.le_refl, Int.lt_irrefl, Option.some.injEq, exists_eq_left', true_and, and_true, if_true, if_false, decide_eq_false_iff_not, decide_eq_true_eq, Nat.reduceAdd, Nat.reduceLeDiff, Nat.reduceLT, Int.reduceAdd, Int.reduceSub, Int.reduceMul, Int.reduceNeg, not_true_eq_false, not_false_eq_true]
      refine k2 h4 ?_ (e3.trans e4)
      rw [if_pos g, show l2 ++ 42 :: dig k = l2 ++ [42] ++ dig k by rw [List.append_assoc]; rfl]
      exact C4
    · simp +decide (maxSteps := 4000000) (disch := omega) only [k65_0, k65_1, k65_2, k65_3, k65_4, k65_r, k65_s, F_al0, T_getI, J_ifle, T_I, T_ft, F_il1, J_icne, T_goto, F_il2, T_icle, T_ret, c11, c26, ↓s11, show k ≤ 1 by omega, ↓reduceIte, TK, lt_run hn, le43, Int.le_refl, Int.lt_irrefl, Option.some.injEq, exists_eq_left', true_and, and_true, if_true, if_false, decide_eq_false_iff_not, decide_eq_true_eq, Nat.reduceAdd, Nat.reduceLeDiff, Nat.reduceLT, Int.reduceAdd, Int.reduceSub, Int.reduceMul, Int.reduceNeg, not_true_eq_false, not_false_eq_true]
      refine k2 h2 ?_ Ef.refl
      rw [if_neg g, List.append_nil]
      exact C2
  have mid : ∀ h2 l2, OC h2 r l2 → (l2.length : Int) + 5 ≤ cap → (∀ h', OC h' r (l2 ++ (if d = -1 then [45] else dig d) ++ (if 1 < k then 42 :: dig k else [])) → Ef (Sw r) h2 h' → Q (none, h', hr, n)) → Tm E 65 (a_bl 65 1) [.ref 46, .int (J d), .int (J k)] [] h2 hr n Q := fun h2 l2 C2 hl2 k2 => by
    rw [k65_1]
    by_cases g : d = -1
    · rw [if_pos g] at k2
      subst g
      simp +decide (maxSteps := 4000000) (disch := omega) only [k65_0, k65_1, k65_2, k65_4, k65_r, k65_s, F_al0, T_getI, J_ifle, T_I, T_ft, F_il1, J_icne, T_goto, F_il2, T_icle, T_ret, c11, c26, ↓s11, kd_46, ↓reduceIte, TK, lt_run hn, le43, Int.le_refl, Int.lt_irrefl, Option.some.injEq, exists_eq_left', true_and, and_true, if_true, if_false, decide_eq_false_iff_not, decide_eq_true_eq, Nat.reduceAdd, Nat.reduceLeDiff, Nat.reduceLT, Int.reduceAdd, Int.reduceSub, Int.reduceMul, Int.reduceNeg, not_true_eq_false, not_false_eq_true]
      refine w11 O C2 (by omega) (fun h3 C3 e3 => ?_)
      have g3 := last h3 _ C3 (by rw [List.length_append]; show ((l2.length + 1 : Nat) : Int) + 3 ≤ cap; omega) (fun h' C' e' => k2 h' C' (e3.trans e'))
      simp +decide (maxSteps := 4000000) (disch := omega) only [k65_0, k65_1, k65_2, k65_4, k65_r, k65_s, F_al0, T_getI, J_ifle, T_I, T_ft, F_il1, J_icne, T_goto, F_il2, T_icle, T_ret, c11, c26, ↓s11, ↓reduceIte, TK, lt_run hn, le43, Int.le_refl, Int.lt_irrefl, Option.some.injEq, exists_eq_left', true_and, and_true, if_true, if_false, decide_eq_false_iff_not, decide_eq_true_eq, Nat.reduceAdd, Nat.reduceLeDiff, Nat.reduceLT, Int.reduceAdd, Int.reduceSub, Int.reduceMul, Int.reduceNeg, not_true_eq_false, not_false_eq_true]
      exact g3
    · rw [if_neg g] at k2
      have dl := dig_l d
      simp +decide (maxSteps := 4000000) (disch := omega) only [k65_0, k65_1, k65_2, k65_4, k65_r, k65_s, F_al0, T_getI, J_ifle, T_I, T_ft, F_il1, J_icne, T_goto, F_il2, T_icle, T_ret, c11, c26, ↓s11, kd_46, g, ↓reduceIte, TK, lt_run hn, le43, Int.le_refl, Int.lt_irrefl, Option.some.injEq, exists_eq_left', true_and, and_true, if_true, if_false, decide_eq_false_iff_not, decide_eq_true_eq, Nat.reduceAdd, Nat.reduceLeDiff, Nat.reduceLT, Int.reduceAdd, Int.reduceSub, Int.reduceMul, Int.reduceNeg, not_true_eq_false, not_false_eq_true]
      refine w26 O C2 (by omega) (by omega) (fun h3 C3 e3 => ?_)
      have g3 := last h3 _ C3 (by rw [List.length_append]; omega) (fun h' C' e' => k2 h' C' (e3.trans e'))
      simp +decide (maxSteps := 4000000) (disch := omega) only [k65_0, k65_1, k65_2, k65_4, k65_r, k65_s, F_al0, T_getI, J_ifle, T_I, T_ft, F_il1, J_icne, T_goto, F_il2, T_icle, T_ret, c11, c26, ↓s11, ↓reduceIte, TK, lt_run hn, le43, Int.le_refl, Int.lt_irrefl, Option.some.injEq, exists_eq_left', true_and, and_true, if_true, if_false, decide_eq_false_iff_not, decide_eq_true_eq, Nat.reduceAdd, Nat.reduceLeDiff, Nat.reduceLT, Int.reduceAdd, Int.reduceSub, Int.reduceMul, Int.reduceNeg, not_true_eq_false, not_false_eq_true]
      exact g3
  unfold itm at kk
  by_cases g : 0 < f
  · rw [if_pos g] at kk
    have l0 := hf.mp g
    simp +decide (maxSteps := 4000000) (disch := omega) only [k65_0, k65_2, k65_3, k65_4, k65_r, k65_s, F_al0, T_getI, J_ifle, T_I, T_ft, F_il1, J_icne, T_goto, F_il2, T_icle, T_ret, c11, c26, ↓s11, kd_46, c0, show ¬ (l.length : Int) ≤ 0 by omega, ↓reduceIte, TK, lt_run hn, le43, Int.le_refl, Int.lt_irrefl, Option.some.injEq, exists_eq_left', true_and, and_true, if_true, if_false, decide_eq_false_iff_not, decide_eq_true_eq, Nat.reduceAdd, Nat.reduceLeDiff, Nat.reduceLT, Int.reduceAdd, Int.reduceSub, Int.reduceMul, Int.reduceNeg, not_true_eq_false, not_false_eq_true]
    refine w11 O C (by omega) (fun h1 C1 e1 => ?_)
    have g3 := mid h1 _ C1 (by rw [List.length_append]; show ((l.length + 1 : Nat) : Int) + 5 ≤ cap; omega) (fun h' C' e' => kk h' (by rw [← List.append_assoc, ← List.append_assoc]; exact C') (e1.trans e'))
    simp +decide (maxSteps := 4000000) (disch := omega) only [k65_0, k65_2, k65_3, k65_4, k65_r, k65_s, F_al0, T_getI, J_ifle, T_I, T_ft, F_il1, J_icne, T_goto, F_il2, T_icle, T_ret, c11, c26, ↓s11, ↓reduceIte, TK, lt_run hn, le43, Int.le_refl, Int.lt_irrefl, Option.some.injEq, exists_eq_left', true_and, and_true, if_true, if_false, decide_eq_false_iff_not, decide_eq_true_eq, Nat.reduceAdd, Nat.reduceLeDiff, Nat.reduceLT, Int.reduceAdd, Int.reduceSub, Int.reduceMul, Int.reduceNeg, not_true_eq_false, not_false_eq_true]
    exact g3
  · rw [if_neg g] at kk
    have l0 : ¬ 0 < l.length := fun z => g (hf.mpr z)
    have g3 := mid h l C (by omega) (fun h' C' e' => kk h' (by rw [List.nil_append, ← List.append_assoc]; exact C') e')
    simp +decide (maxSteps := 4000000) (disch := omega) only [k65_0, k65_2, k65_3, k65_4, k65_r, k65_s, F_al0, T_getI, J_ifle, T_I, T_ft, F_il1, J_icne, T_goto, F_il2, T_icle, T_ret, c11, c26, ↓s11, kd_46, c0, show (l.length : Int) ≤ 0 by omega, ↓reduceIte, TK, lt_run hn, le43, Int.le_refl, Int.lt_irrefl, Option.some.injEq, exists_eq_left', true_and, and_true, if_true, if_false, decide_eq_false_iff_not, decide_eq_true_eq, Nat.reduceAdd, Nat.reduceLeDiff, Nat.reduceLT, Int.reduceAdd, Int.reduceSub, Int.reduceMul, Int.reduceNeg, not_true_eq_false, not_false_eq_true]
    exact g3
theorem w64 (F : FH hr) (hn : 775 ≤ n) (O : Or E hr n r cap) {y N : Int} {R : Int → Int} (y0 : 0 ≤ y) (y1 : y < 4) (hN : 0 ≤ N ∧ N ≤ 120) (hR : ∀ f, -1 ≤ R f ∧ R f ≤ 15) (b1 : h (623 + 3 * y.toNat) 1 = J N) (b3 : ∀ f, 0 ≤ f → f < N → gA h (624 + 3 * y.toNat) f = J (R f)) (C : OC h r []) (k : ∀ h', OC h' r (tlt N R 121 0) → ((tlt N R 121 0).length : Int) ≤ 360 → Ef (Sw r) h h' → Q (none, h', hr, n)) : Sp E 64 [.ref (623 + 3 * y.toNat), .ref 46] h hr n Q := by
  have x1 := X90 E F y0 y1
  have on := O.ne
  simp +decide (maxSteps := 4000000) (disch := omega) only [k64_0, k64_2, k64_3, k64_4, k64_r, k64_s, T_I, F_is2i, F_is2r, F_is2m, F_is3i, F_is3r, F_is3m, T_ft, F_il3, F_al0, T_getI, T_icgt, T_iceq, T_getR, X_iald, F_il2, J_icne, T_sub, F_al1, F_inc3i, F_inc3r, F_inc3m, T_goto, T_ret, c65, x1, ↓reduceIte, TK, lt_run hn, le43, Int.le_refl, Int.lt_irrefl, Option.some.injEq, exists_eq_left', true_and, and_true, if_true, if_false, decide_eq_false_iff_not, decide_eq_true_eq, Nat.reduceAdd, Nat.reduceLeDiff, Nat.reduceLT, Int.reduceAdd, Int.reduceSub, Int.reduceMul, Int.reduceNeg, not_true_eq_false, not_false_eq_true]
  refine T_for (σ := Int × List Int × Nat) (fun f s => [.ref (623 + 3 * y.toNat), .ref 46, .int (J s.1), .int (J f)]) (fun f s h' => Ef (Sw r) h h' ∧ OC h' r s.2.1 ∧ s.2.1 ++ tlt N R s.2.2 s.1 = tlt N R 121 0 ∧ (0 ≤ s.1 ∧ s.1 ≤ N ∧ N - s.1 < s.2.2) ∧ ((s.2.1.length : Int) ≤ 3 * s.1 ∧ (0 < s.1 ↔ 0 < s.2.1.length)) ∧ ((s.1 < f ∧ f ≤ N + 1 ∧ (f = N + 1 → s.1 = N)) ∧ ∀ j, 1 ≤ j → j < f - s.1 → f ≤ N → j < 99 ∧ s.1 + j < N ∧ R (s.1 + j) = R s.1)) 1 (N + 1) ?_ ?_ 1 (0, [], 121) h (by omega) (by omega) ⟨Ef.refl, C, rfl, by dsimp only; omega, ⟨by decide, by decide⟩, ⟨by dsimp only; omega, fun j _ _ _ => by dsimp only at *; omega⟩⟩
  · rintro f ⟨bg, l, q⟩ h1 f0 f1 ⟨e1, C1, t1, ⟨q1, q2, q3⟩, ⟨u1, u2⟩, ⟨v1, v2, v3⟩, v4⟩ ih
    dsimp only at C1 t1 q1 q2 q3 u1 u2 v1 v2 v3 v4 ⊢
    have d1 : h1 (623 + 3 * y.toNat) 1 = J N := by
      rw [e1 _ _ (by unfold Sw; omega)]
      exact b1
    have rb := hR bg
    have rf := hR f
    have d2 : gA h1 (624 + 3 * y.toNat) bg = J (R bg) := by
      rw [e1.g (by unfold Sw; omega)]
      exact b3 bg q1 (by omega)
    have flush : ¬ (f - bg < 99 ∧ bg + (f - bg) < N ∧ R (bg + (f - bg)) = R bg) → f - bg ≤ 99 → Tm E 64 (a_bl 64 2) [.ref (623 + 3 * y.toNat), .ref 46, .int (J bg), .int (J f)] [] h1 hr n Q := fun nc le => by
      have er : rl N R bg = f - bg := rl_u (by omega) le (fun j j0 j1 => v4 j j0 j1 (by omega)) nc
      have il := itm_l (f := bg) (d := R bg) (k := f - bg) (by omega)
      obtain ⟨q', hq'⟩ : ∃ q', q = q' + 1 := ⟨q - 1, by omega⟩
      subst hq'
      rw [k64_2]
      simp +decide (maxSteps := 4000000) (disch := omega) only [k64_0, k64_2, k64_3, k64_4, k64_r, k64_s, T_I, F_is2i, F_is2r, F_is2m, F_is3i, F_is3r, F_is3m, T_ft, F_il3, F_al0, T_getI, T_icgt, T_iceq, T_getR, X_iald, F_il2, J_icne, T_sub, F_al1, F_inc3i, F_inc3r, F_inc3m, T_goto, T_ret, c65, x1, d2, kd_46, ↓reduceIte, TK, lt_run hn, le43, Int.le_refl, Int.lt_irrefl, Option.some.injEq, exists_eq_left', true_and, and_true, if_true, if_false, decide_eq_false_iff_not, decide_eq_true_eq, Nat.reduceAdd, Nat.reduceLeDiff, Nat.reduceLT, Int.reduceAdd, Int.reduceSub, Int.reduceMul, Int.reduceNeg, not_true_eq_false, not_false_eq_true]
      refine w65 O hn C1 (by omega) (f := bg) u2 rb (by omega) (fun h2 C2 e2 => ?_)
      simp +decide (maxSteps := 4000000) (disch := omega) only [k64_0, k64_2, k64_3, k64_4, k64_r, k64_s, T_I, F_is2i, F_is2r, F_is2m, F_is3i, F_is3r, F_is3m, T_ft, F_il3, F_al0, T_getI, T_icgt, T_iceq, T_getR, X_iald, F_il2, J_icne, T_sub, F_al1, F_inc3i, F_inc3r, F_inc3m, T_goto, T_ret, c65, ↓reduceIte, TK, lt_run hn, le43, Int.le_refl, Int.lt_irrefl, Option.some.injEq, exists_eq_left', true_and, and_true, if_true, if_false, decide_eq_false_iff_not, decide_eq_true_eq, Nat.reduceAdd, Nat.reduceLeDiff, Nat.reduceLT, Int.reduceAdd, Int.reduceSub, Int.reduceMul, Int.reduceNeg, not_true_eq_false, not_false_eq_true]
      refine ih (f, l ++ itm bg (R bg) (f - bg), q') h2 ⟨e1.trans e2, C2, ?_, by dsimp only; omega, ⟨?_, ?_⟩, ⟨by dsimp only; omega, fun j j0 j1 j2 => by dsimp only at *; omega⟩⟩
      · dsimp only
        unfold tlt at t1
        rw [if_pos (show bg < N by omega), er, show bg + (f - bg) = f by omega] at t1
        rw [List.append_assoc]
        exact t1
      · dsimp only
        rw [List.length_append]
        omega
      · dsimp only
        rw [List.length_append]
        omega
    have go : f < N → R f = R bg → f - bg < 99 → Tm E 64 (a_bl 64 1) [.ref (623 + 3 * y.toNat), .ref 46, .int (J bg), .int (J (f + 1))] [] h1 hr n Q := fun g1 g2 g3 => by
      refine ih (bg, l, q) h1 ⟨e1, C1, t1, ⟨q1, q2, q3⟩, ⟨u1, u2⟩, ⟨by dsimp only; omega, fun j j0 j1 j2 => ?_⟩⟩
      dsimp only at j1 ⊢
      rcases (show j < f - bg ∨ j = f - bg by omega) with z | z
      · exact v4 j j0 z (by omega)
      · rw [z, show bg + (f - bg) = f by omega]
        exact ⟨by omega, g1, g2⟩
    have le99 : f - bg ≤ 99 := by
      rcases (show f - bg ≤ 1 ∨ 1 < f - bg by omega) with z | z
      · omega
      · have := (v4 (f - bg - 1) (by omega) (by omega) (by omega)).1
        omega
    by_cases g1 : f = N
    · have g2 := flush (by omega) le99
      rw [g1] at g2 ⊢
      rw [k64_1]
      simp +decide (maxSteps := 4000000) (disch := omega) only [k64_0, k64_3, k64_4, k64_r, k64_s, T_I, F_is2i, F_is2r, F_is2m, F_is3i, F_is3r, F_is3m, T_ft, F_il3, F_al0, T_getI, T_icgt, T_iceq, T_getR, X_iald, F_il2, J_icne, T_sub, F_al1, F_inc3i, F_inc3r, F_inc3m, T_goto, T_ret, c65, x1, d1, ↓reduceIte, TK, lt_run hn, le43, Int.le_refl, Int.lt_irrefl, Option.some.injEq, exists_eq_left', true_and, and_true, if_true, if_false, decide_eq_false_iff_not, decide_eq_true_eq, Nat.reduceAdd, Nat.reduceLeDiff, Nat.reduceLT, Int.reduceAdd, Int.reduceSub, Int.reduceMul, Int.reduceNeg, not_true_eq_false, not_false_eq_true]
      exact g2
    · have d3 : gA h1 (624 + 3 * y.toNat) f = J (R f) := by
        rw [e1.g (by unfold Sw; omega)]
        exact b3 f (by omega) (by omega)
      by_cases g2 : R f = R bg
      · rw [g2] at d3
        by_cases g3 : f - bg = 99
        · have g4 := flush (by omega) le99
          rw [k64_1]
          simp +decide (maxSteps := 4000000) (disch := omega) only [k64_0, k64_3, k64_4, k64_r, k64_s, T_I, F_is2i, F_is2r, F_is2m, F_is3i, F_is3r, F_is3m, T_ft, F_il3, F_al0, T_getI, T_icgt, T_iceq, T_getR, X_iald, F_il2, J_icne, T_sub, F_al1, F_inc3i, F_inc3r, F_inc3m, T_goto, T_ret, c65, x1, d1, d2, d3, g1, g3, show ¬ N < f by omega, ↓reduceIte, TK, lt_run hn, le43, Int.le_refl, Int.lt_irrefl, Option.some.injEq, exists_eq_left', true_and, and_true, if_true, if_false, decide_eq_false_iff_not, decide_eq_true_eq, Nat.reduceAdd, Nat.reduceLeDiff, Nat.reduceLT, Int.reduceAdd, Int.reduceSub, Int.reduceMul, Int.reduceNeg, not_true_eq_false, not_false_eq_true]
          exact g4
        · have g4 := go (by omega) g2 (by omega)
          rw [k64_1]
          simp +decide (maxSteps := 4000000) (disch := omega) only [k64_0, k64_3, k64_4, k64_r, k64_s, T_I, F_is2i, F_is2r, F_is2m, F_is3i, F_is3r, F_is3m, T_ft, F_il3, F_al0, T_getI, T_icgt, T_iceq, T_getR, X_iald, F_il2, J_icne, T_sub, F_al1, F_inc3i, F_inc3r, F_inc3m, T_goto, T_ret, c65, x1, d1, d2, d3, g1, g3, show ¬ N < f by omega, ↓reduceIte, TK, lt_run hn, le43, Int.le_refl, Int.lt_irrefl, Option.some.injEq, exists_eq_left', true_and, and_true, if_true, if_false, decide_eq_false_iff_not, decide_eq_true_eq, Nat.reduceAdd, Nat.reduceLeDiff, Nat.reduceLT, Int.reduceAdd, Int.reduceSub, Int.reduceMul, Int.reduceNeg, not_true_eq_false, not_false_eq_true]
          exact g4
      · have g4 := flush (fun z => g2 (by rw [show bg + (f - bg) = f by omega] at z; exact z.2.2)) le99
        rw [k64_1]
        simp +decide (maxSteps := 4000000) (disch := omega) only [k64_0, k64_3, k64_4, k64_r, k64_s, T_I, F_is2i, F_is2r, F_is2m, F_is3i, F_is3r, F_is3m, T_ft, F_il3, F_al0, T_getI, T_icgt, T_iceq, T_getR, X_iald, F_il2, J_icne, T_sub, F_al1, F_inc3i, F_inc3r, F_inc3m, T_goto, T_ret, c65, x1, d1, d2, d3, g1, g2, show ¬ N < f by omega, ↓reduceIte, TK, lt_run hn, le43, Int.le_refl, Int.lt_irrefl, Option.some.injEq, exists_eq_left', true_and, and_true, if_true, if_false, decide_eq_false_iff_not, decide_eq_true_eq, Nat.reduceAdd, Nat.reduceLeDiff, Nat.reduceLT, Int.reduceAdd, Int.reduceSub, Int.reduceMul, Int.reduceNeg, not_true_eq_false, not_false_eq_true]
        exact g4
  · rintro ⟨bg, l, q⟩ h1 ⟨e1, C1, t1, ⟨q1, q2, q3⟩, ⟨u1, u2⟩, ⟨v1, v2, v3⟩, v4⟩
    dsimp only at C1 t1 q1 q2 q3 u1 u2 v1 v2 v3 v4 ⊢
    have d1 : h1 (623 + 3 * y.toNat) 1 = J N := by
      rw [e1 _ _ (by unfold Sw; omega)]
      exact b1
    have e : tlt N R q bg = [] := by
      cases q with
      | zero => rfl
      | succ q =>
        unfold tlt
        rw [if_neg (by have := v3 rfl; omega)]
    rw [e, List.append_nil] at t1
    rw [t1] at C1 u1
    rw [k64_1]
    simp +decide (maxSteps := 4000000) (disch := omega) only [k64_0, k64_2, k64_3, k64_4, k64_r, k64_s, T_I, F_is2i, F_is2r, F_is2m, F_is3i, F_is3r, F_is3m, T_ft, F_il3, F_al0, T_getI, T_icgt, T_iceq, T_getR, X_iald, F_il2, J_icne, T_sub, F_al1, F_inc3i, F_inc3r, F_inc3m, T_goto, T_ret, c65, x1, d1, show N < N + 1 by omega, ↓reduceIte, TK, lt_run hn, le43, Int.le_refl, Int.lt_irrefl, Option.some.injEq, exists_eq_left', true_and, and_true, if_true, if_false, decide_eq_false_iff_not, decide_eq_true_eq, Nat.reduceAdd, Nat.reduceLeDiff, Nat.reduceLT, Int.reduceAdd, Int.reduceSub, Int.reduceMul, Int.reduceNeg, not_true_eq_false, not_false_eq_true]
    exact k h1 C1 (by omega) e1
theorem w270 (F : FH hr) (hn : 775 ≤ n) {y N : Int} {R : Int → Int} (y0 : 0 ≤ y) (y1 : y < 4) (hN : 0 ≤ N ∧ N ≤ 120) (hR : ∀ f, -1 ≤ R f ∧ R f ≤ 15) (b1 : gA h 735 y = J N) (b3 : ∀ f, 0 ≤ f → f < N → gA h 734 (120 * y + f) = J (R f)) (k : ∀ h', OM h' (tlt N R 121 0) → Ef Sv h h' → Q (some (.int (J (tlt N R 121 0).length)), h', hr, n)) : Sp E 270 [.ref 704, .int (J y)] h hr n Q := by
  simp +decide (maxSteps := 4000000) (disch := omega) only [k270_0, k270_1, k270_4, k270_5, k270_6, k270_7, k270_8, k270_9, k270_r, k270_s, F_il1, J_ifne, T_I, T_ret, F_al0, T_putI, T_putZ, F_is2i, F_is2r, F_is2m, T_ft, F_il2, T_getR, X_iald, T_icge, T_mul, T_add, F_is3i, F_is3r, F_is3m, F_is4i, F_is4r, F_is4m, F_il4, F_il3, J_icne, F_inc4i, F_inc4r, F_inc4m, T_goto, J_ifle, J_ifge, T_icle, T_getI, c232, c233, c264, ↓s264, FM F, show y ≤ 3 by omega, y0, ↓reduceIte, TK, lt_run hn, le43, Int.le_refl, Int.lt_irrefl, Option.some.injEq, exists_eq_left', true_and, and_true, if_true, if_false, decide_eq_false_iff_not, decide_eq_true_eq, Nat.reduceAdd, Nat.reduceLeDiff, Nat.reduceLT, Int.reduceAdd, Int.reduceSub, Int.reduceMul, Int.reduceNeg, not_true_eq_false, not_false_eq_true]
  have e0 : Ef Sv h (hI h 704 7 (J 0)) := Ef.refl.hI (Or.inl ⟨rfl, rfl⟩)
  have C0 : OM (hI h 704 7 (J 0)) [] := ⟨hI_s, fun i i0 i1 => by have : i < 0 := i1; omega⟩
  refine T_wh (σ := Int × List Int × Nat × Value × Value) (fun s => [.ref 704, .int (J y), .int (J s.1), s.2.2.2.1, s.2.2.2.2]) (fun s h' => Ef Sv h h' ∧ OM h' s.2.1 ∧ s.2.1 ++ tlt N R s.2.2.1 s.1 = tlt N R 121 0 ∧ (0 ≤ s.1 ∧ s.1 ≤ N ∧ N - s.1 < s.2.2.1) ∧ (s.2.1.length : Int) ≤ 3 * s.1) (fun s _ => (N - s.1).toNat) ?_ (0, [], 121, a_mk, a_mk) _ ⟨e0, C0, rfl, by dsimp only; omega, by decide⟩
  rintro ⟨f, l, q, v3, v4⟩ h1 ⟨e1, C1, t1, ⟨q1, q2, q3⟩, u1⟩ ih
  dsimp only at C1 t1 q1 q2 q3 u1 ⊢
  have d1 : gA h1 735 y = J N := by
    rw [e1.g (by unfold Sv; omega)]
    exact b1
  by_cases g : N ≤ f
  · have e : tlt N R q f = [] := by
      cases q with
      | zero => rfl
      | succ q =>
        unfold tlt
        rw [if_neg (by omega)]
    rw [e, List.append_nil] at t1
    rw [t1] at C1
    have c1 := C1.1
    rw [k270_2]
    simp +decide (maxSteps := 4000000) (disch := omega) only [k270_0, k270_1, k270_4, k270_5, k270_6, k270_7, k270_8, k270_9, k270_r, k270_s, F_il1, J_ifne, T_I, T_ret, F_al0, T_putI, T_putZ, F_is2i, F_is2r, F_is2m, T_ft, F_il2, T_getR, X_iald, T_icge, T_mul, T_add, F_is3i, F_is3r, F_is3m, F_is4i, F_is4r, F_is4m, F_il4, F_il3, J_icne, F_inc4i, F_inc4r, F_inc4m, T_goto, J_ifle, J_ifge, T_icle, T_getI, c232, c233, c264, ↓s264, FM F, d1, ln_735, g, c1, ↓reduceIte, TK, lt_run hn, le43, Int.le_refl, Int.lt_irrefl, Option.some.injEq, exists_eq_left', true_and, and_true, if_true, if_false, decide_eq_false_iff_not, decide_eq_true_eq, Nat.reduceAdd, Nat.reduceLeDiff, Nat.reduceLT, Int.reduceAdd, Int.reduceSub, Int.reduceMul, Int.reduceNeg, not_true_eq_false, not_false_eq_true]
    exact k h1 C1 e1
  have b3' : ∀ j, 0 ≤ j → j < N → gA h1 734 (120 * y + j) = J (R j) := fun j j0 j1 => by
    rw [e1.g (by unfold Sv; omega)]
    exact b3 j j0 j1
  have d2 := b3' f q1 (by omega)
  rw [k270_2]
  simp +decide (maxSteps := 4000000) (disch := omega) only [k270_0, k270_1, k270_4, k270_5, k270_6, k270_7, k270_8, k270_9, k270_r, k270_s, F_il1, J_ifne, T_I, T_ret, F_al0, T_putI, T_putZ, F_is2i, F_is2r, F_is2m, T_ft, F_il2, T_getR, X_iald, T_icge, T_mul, T_add, F_is3i, F_is3r, F_is3m, F_is4i, F_is4r, F_is4m, F_il4, F_il3, J_icne, F_inc4i, F_inc4r, F_inc4m, T_goto, J_ifle, J_ifge, T_icle, T_getI, c232, c233, c264, ↓s264, FM F, d1, d2, ln_734, ln_735, g, ↓reduceIte, TK, lt_run hn, le43, Int.le_refl, Int.lt_irrefl, Option.some.injEq, exists_eq_left', true_and, and_true, if_true, if_false, decide_eq_false_iff_not, decide_eq_true_eq, Nat.reduceAdd, Nat.reduceLeDiff, Nat.reduceLT, Int.reduceAdd, Int.reduceSub, Int.reduceMul, Int.reduceNeg, not_true_eq_false, not_false_eq_true]
  refine T_wh (σ := Int) (fun s => [.ref 704, .int (J y), .int (J f), .int (J (R f)), .int (J s)]) (fun s h' => h' = h1 ∧ (1 ≤ s ∧ s ≤ 99 ∧ f + s ≤ N) ∧ ∀ j, 1 ≤ j → j < s → j < 99 ∧ f + j < N ∧ R (f + j) = R f) (fun s _ => (99 - s).toNat) ?_ 1 h1 ⟨rfl, by omega, fun j _ _ => by omega⟩
  rintro m h2 ⟨rfl, ⟨m0, m1, m2⟩, m3⟩ ih2
  have rf := hR f
  have fl : ¬ (m < 99 ∧ f + m < N ∧ R (f + m) = R f) → Tm E 270 (a_bl 270 4) [.ref 704, .int (J y), .int (J f), .int (J (R f)), .int (J m)] [] h2 hr n Q := fun nc => by
    have er : rl N R f = m := rl_u m0 m1 m3 nc
    have il := itm_l (f := f) (d := R f) (k := m) m0
    have dl1 := dig_l (R f)
    have dl2 := dig_l m
    obtain ⟨q', hq'⟩ : ∃ q', q = q' + 1 := ⟨q - 1, by omega⟩
    subst hq'
    unfold tlt at t1
    rw [if_pos (show f < N by omega), er, ← List.append_assoc] at t1
    have done : ∀ h5 v3 v4, OM h5 (l ++ itm f (R f) m) → Ef Sv h2 h5 → Tm E 270 (a_bl 270 2) [.ref 704, .int (J y), .int (J (f + m)), v3, v4] [] h5 hr n Q := fun h5 v3 v4 C5 e5 => ih (f + m, l ++ itm f (R f) m, q', v3, v4) h5 ⟨e1.trans e5, C5, t1, by dsimp only; omega, by dsimp only; rw [List.length_append]; omega⟩ (by dsimp only; omega)
    have p3 : ∀ h4 l4, OM h4 l4 → (l4.length : Int) ≤ 400 → l4 ++ (if 1 < m then 42 :: dig m else []) = l ++ itm f (R f) m → Ef Sv h2 h4 → Tm E 270 (a_bl 270 7) [.ref 704, .int (J y), .int (J f), .int (J (R f)), .int (J m)] [] h4 hr n Q := fun h4 l4 C4 hl4 el e4 => by
      rw [k270_7]
      by_cases z : 1 < m
      · rw [if_pos z, show l4 ++ 42 :: dig m = l4 ++ [42] ++ dig m by rw [List.append_assoc]; rfl] at el
        simp +decide (maxSteps := 4000000) (disch := omega) only [k270_0, k270_1, k270_4, k270_5, k270_6, k270_7, k270_8, k270_9, k270_r, k270_s, F_il1, J_ifne, T_I, T_ret, F_al0, T_putI, T_putZ, F_is2i, F_is2r, F_is2m, T_ft, F_il2, T_getR, X_iald, T_icge, T_mul, T_add, F_is3i, F_is3r, F_is3m, F_is4i, F_is4r, F_is4m, F_il4, F_il3, J_icne, F_inc4i, F_inc4r, F_inc4m, T_goto, J_ifle, J_ifge, T_icle, T_getI, c232, c233, c264, ↓s264, FM F, show ¬ m ≤ 1 by omega, ↓reduceIte, TK, lt_run hn, le43, Int.le_refl, Int.lt_irrefl, Option.some.injEq, exists_eq_left', true_and, and_true, if_true, if_false, decide_eq_false_iff_not, decide_eq_true_eq, Nat.reduceAdd, Nat.reduceLeDiff, Nat.reduceLT, Int.reduceAdd, Int.reduceSub, Int.reduceMul, Int.reduceNeg, not_true_eq_false, not_false_eq_true]
        refine w233 F hn C4 (by omega) (fun h5 C5 e5 => ?_)
        simp +decide (maxSteps := 4000000) (disch := omega) only [k270_0, k270_1, k270_4, k270_5, k270_6, k270_7, k270_8, k270_9, k270_r, k270_s, F_il1, J_ifne, T_I, T_ret, F_al0, T_putI, T_putZ, F_is2i, F_is2r, F_is2m, T_ft, F_il2, T_getR, X_iald, T_icge, T_mul, T_add, F_is3i, F_is3r, F_is3m, F_is4i, F_is4r, F_is4m, F_il4, F_il3, J_icne, F_inc4i, F_inc4r, F_inc4m, T_goto, J_ifle, J_ifge, T_icle, T_getI, c232, c233, c264, ↓s264, FM F, ↓reduceIte, TK, lt_run hn, le43, Int.le_refl, Int.lt_irrefl, Option.some.injEq, exists_eq_left', true_and, and_true, if_true, if_false, decide_eq_false_iff_not, decide_eq_true_eq, Nat.reduceAdd, Nat.reduceLeDiff, Nat.reduceLT, Int.reduceAdd, Int.reduceSub, Int.reduceMul, Int.reduceNeg, not_true_eq_false, not_false_eq_true]
        refine w232 F hn C5 (by rw [List.length_append]; show ((l4.length + 1 : Nat) : Int) + 2 ≤ 49264; omega) (by omega) (fun h6 C6 e6 => ?_)
        rw [el] at C6
        simp +decide (maxSteps := 4000000) (disch := omega) only [k270_0, k270_1, k270_4, k270_5, k270_6, k270_7, k270_8, k270_9, k270_r, k270_s, F_il1, J_ifne, T_I, T_ret, F_al0, T_putI, T_putZ, F_is2i, F_is2r, F_is2m, T_ft, F_il2, T_getR, X_iald, T_icge, T_mul, T_add, F_is3i, F_is3r, F_is3m, F_is4i, F_is4r, F_is4m, F_il4, F_il3, J_icne, F_inc4i, F_inc4r, F_inc4m, T_goto, J_ifle, J_ifge, T_icle, T_getI, c232, c233, c264, ↓s264, ↓reduceIte, TK, lt_run hn, le43, Int.le_refl, Int.lt_irrefl, Option.some.injEq, exists_eq_left', true_and, and_true, if_true, if_false, decide_eq_false_iff_not, decide_eq_true_eq, Nat.reduceAdd, Nat.reduceLeDiff, Nat.reduceLT, Int.reduceAdd, Int.reduceSub, Int.reduceMul, Int.reduceNeg, not_true_eq_false, not_false_eq_true]
        exact done h6 _ _ C6 ((e4.trans e5).trans e6)
      · rw [if_neg z, List.append_nil] at el
        rw [el] at C4
        simp +decide (maxSteps := 4000000) (disch := omega) only [k270_0, k270_1, k270_4, k270_5, k270_6, k270_7, k270_8, k270_9, k270_r, k270_s, F_il1, J_ifne, T_I, T_ret, F_al0, T_putI, T_putZ, F_is2i, F_is2r, F_is2m, T_ft, F_il2, T_getR, X_iald, T_icge, T_mul, T_add, F_is3i, F_is3r, F_is3m, F_is4i, F_is4r, F_is4m, F_il4, F_il3, J_icne, F_inc4i, F_inc4r, F_inc4m, T_goto, J_ifle, J_ifge, T_icle, T_getI, c232, c233, c264, ↓s264, FM F, show m ≤ 1 by omega, ↓reduceIte, TK, lt_run hn, le43, Int.le_refl, Int.lt_irrefl, Option.some.injEq, exists_eq_left', true_and, and_true, if_true, if_false, decide_eq_false_iff_not, decide_eq_true_eq, Nat.reduceAdd, Nat.reduceLeDiff, Nat.reduceLT, Int.reduceAdd, Int.reduceSub, Int.reduceMul, Int.reduceNeg, not_true_eq_false, not_false_eq_true]
        exact done h4 _ _ C4 e4
    have p2 : ∀ h4 l4, OM h4 l4 → (l4.length : Int) ≤ 390 → l4 ++ (if R f = -1 then [45] else dig (R f)) ++ (if 1 < m then 42 :: dig m else []) = l ++ itm f (R f) m → Ef Sv h2 h4 → Tm E 270 (a_bl 270 5) [.ref 704, .int (J y), .int (J f), .int (J (R f)), .int (J m)] [] h4 hr n Q := fun h4 l4 C4 hl4 el e4 => by
      rw [k270_5]
      by_cases z : R f = -1
      · rw [if_pos z] at el
        simp +decide (maxSteps := 4000000) (disch := omega) only [k270_0, k270_1, k270_4, k270_5, k270_6, k270_8, k270_9, k270_r, k270_s, F_il1, J_ifne, T_I, T_ret, F_al0, T_putI, T_putZ, F_is2i, F_is2r, F_is2m, T_ft, F_il2, T_getR, X_iald, T_icge, T_mul, T_add, F_is3i, F_is3r, F_is3m, F_is4i, F_is4r, F_is4m, F_il4, F_il3, J_icne, F_inc4i, F_inc4r, F_inc4m, T_goto, J_ifle, J_ifge, T_icle, T_getI, c232, c233, c264, ↓s264, FM F, show ¬ 0 ≤ R f by omega, ↓reduceIte, TK, lt_run hn, le43, Int.le_refl, Int.lt_irrefl, Option.some.injEq, exists_eq_left', true_and, and_true, if_true, if_false, decide_eq_false_iff_not, decide_eq_true_eq, Nat.reduceAdd, Nat.reduceLeDiff, Nat.reduceLT, Int.reduceAdd, Int.reduceSub, Int.reduceMul, Int.reduceNeg, not_true_eq_false, not_false_eq_true]
        refine w233 F hn C4 (by omega) (fun h5 C5 e5 => ?_)
        have g3 := p3 h5 _ C5 (by rw [List.length_append]; show ((l4.length + 1 : Nat) : Int) ≤ 400; omega) el (e4.trans e5)
        simp +decide (maxSteps := 4000000) (disch := omega) only [k270_0, k270_1, k270_4, k270_5, k270_6, k270_8, k270_9, k270_r, k270_s, F_il1, J_ifne, T_I, T_ret, F_al0, T_putI, T_putZ, F_is2i, F_is2r, F_is2m, T_ft, F_il2, T_getR, X_iald, T_icge, T_mul, T_add, F_is3i, F_is3r, F_is3m, F_is4i, F_is4r, F_is4m, F_il4, F_il3, J_icne, F_inc4i, F_inc4r, F_inc4m, T_goto, J_ifle, J_ifge, T_icle, T_getI, c232, c233, c264, ↓s264, ↓reduceIte, TK, lt_run hn, le43, Int.le_refl, Int.lt_irrefl, Option.some.injEq, exists_eq_left', true_and, and_true, if_true, if_false, decide_eq_false_iff_not, decide_eq_true_eq, Nat.reduceAdd, Nat.reduceLeDiff, Nat.reduceLT, Int.reduceAdd, Int.reduceSub, Int.reduceMul, Int.reduceNeg, not_true_eq_false, not_false_eq_true]
        exact g3
      · rw [if_neg z] at el
        simp +decide (maxSteps := 4000000) (disch := omega) only [k270_0, k270_1, k270_4, k270_5, k270_6, k270_8, k270_9, k270_r, k270_s, F_il1, J_ifne, T_I, T_ret, F_al0, T_putI, T_putZ, F_is2i, F_is2r, F_is2m, T_ft, F_il2, T_getR, X_iald, T_icge, T_mul, T_add, F_is3i, F_is3r, F_is3m, F_is4i, F_is4r, F_is4m, F_il4, F_il3, J_icne, F_inc4i, F_inc4r, F_inc4m, T_goto, J_ifle, J_ifge, T_icle, T_getI, c232, c233, c264, ↓s264, FM F, show 0 ≤ R f by omega, ↓reduceIte, TK, lt_run hn, le43, Int.le_refl, Int.lt_irrefl, Option.some.injEq, exists_eq_left', true_and, and_true, if_true, if_false, decide_eq_false_iff_not, decide_eq_true_eq, Nat.reduceAdd, Nat.reduceLeDiff, Nat.reduceLT, Int.reduceAdd, Int.reduceSub, Int.reduceMul, Int.reduceNeg, not_true_eq_false, not_false_eq_true]
        refine w232 F hn C4 (by omega) (by omega) (fun h5 C5 e5 => ?_)
        have g3 := p3 h5 _ C5 (by rw [List.length_append]; omega) el (e4.trans e5)
        simp +decide (maxSteps := 4000000) (disch := omega) only [k270_0, k270_1, k270_4, k270_5, k270_6, k270_8, k270_9, k270_r, k270_s, F_il1, J_ifne, T_I, T_ret, F_al0, T_putI, T_putZ, F_is2i, F_is2r, F_is2m, T_ft, F_il2, T_getR, X_iald, T_icge, T_mul, T_add, F_is3i, F_is3r, F_is3m, F_is4i, F_is4r, F_is4m, F_il4, F_il3, J_icne, F_inc4i, F_inc4r, F_inc4m, T_goto, J_ifle, J_ifge, T_icle, T_getI, c232, c233, c264, ↓s264, ↓reduceIte, TK, lt_run hn, le43, Int.le_refl, Int.lt_irrefl, Option.some.injEq, exists_eq_left', true_and, and_true, if_true, if_false, decide_eq_false_iff_not, decide_eq_true_eq, Nat.reduceAdd, Nat.reduceLeDiff, Nat.reduceLT, Int.reduceAdd, Int.reduceSub, Int.reduceMul, Int.reduceNeg, not_true_eq_false, not_false_eq_true]
        exact g3
    rw [k270_4]
    by_cases z : 0 < f
    · simp +decide (maxSteps := 4000000) (disch := omega) only [k270_0, k270_1, k270_4, k270_6, k270_7, k270_8, k270_9, k270_r, k270_s, F_il1, J_ifne, T_I, T_ret, F_al0, T_putI, T_putZ, F_is2i, F_is2r, F_is2m, T_ft, F_il2, T_getR, X_iald, T_icge, T_mul, T_add, F_is3i, F_is3r, F_is3m, F_is4i, F_is4r, F_is4m, F_il4, F_il3, J_icne, F_inc4i, F_inc4r, F_inc4m, T_goto, J_ifle, J_ifge, T_icle, T_getI, c232, c233, c264, ↓s264, FM F, show ¬ f ≤ 0 by omega, ↓reduceIte, TK, lt_run hn, le43, Int.le_refl, Int.lt_irrefl, Option.some.injEq, exists_eq_left', true_and, and_true, if_true, if_false, decide_eq_false_iff_not, decide_eq_true_eq, Nat.reduceAdd, Nat.reduceLeDiff, Nat.reduceLT, Int.reduceAdd, Int.reduceSub, Int.reduceMul, Int.reduceNeg, not_true_eq_false, not_false_eq_true]
      refine w233 F hn C1 (by omega) (fun h5 C5 e5 => ?_)
      have g3 := p2 h5 _ C5 (by rw [List.length_append]; show ((l.length + 1 : Nat) : Int) ≤ 390; omega) (by unfold itm; rw [if_pos z]; simp only [List.append_assoc]) e5
      simp +decide (maxSteps := 4000000) (disch := omega) only [k270_0, k270_1, k270_4, k270_6, k270_7, k270_8, k270_9, k270_r, k270_s, F_il1, J_ifne, T_I, T_ret, F_al0, T_putI, T_putZ, F_is2i, F_is2r, F_is2m, T_ft, F_il2, T_getR, X_iald, T_icge, T_mul, T_add, F_is3i, F_is3r, F_is3m, F_is4i, F_is4r, F_is4m, F_il4, F_il3, J_icne, F_inc4i, F_inc4r, F_inc4m, T_goto, J_ifle, J_ifge, T_icle, T_getI, c232, c233, c264, ↓s264, ↓reduceIte, TK, lt_run hn, le43, Int.le_refl, Int.lt_irrefl, Option.some.injEq, exists_eq_left', true_and, and_true, if_true, if_false, decide_eq_false_iff_not, decide_eq_true_eq, Nat.reduceAdd, Nat.reduceLeDiff, Nat.reduceLT, Int.reduceAdd, Int.reduceSub, Int.reduceMul, Int.reduceNeg, not_true_eq_false, not_false_eq_true]
      exact g3
    · have g3 := p2 h2 l C1 (by omega) (by unfold itm; rw [if_neg z]; simp only [List.append_assoc, List.nil_append]) Ef.refl
      simp +decide (maxSteps := 4000000) (disch := omega) only [k270_0, k270_1, k270_4, k270_6, k270_7, k270_8, k270_9, k270_r, k270_s, F_il1, J_ifne, T_I, T_ret, F_al0, T_putI, T_putZ, F_is2i, F_is2r, F_is2m, T_ft, F_il2, T_getR, X_iald, T_icge, T_mul, T_add, F_is3i, F_is3r, F_is3m, F_is4i, F_is4r, F_is4m, F_il4, F_il3, J_icne, F_inc4i, F_inc4r, F_inc4m, T_goto, J_ifle, J_ifge, T_icle, T_getI, c232, c233, c264, ↓s264, FM F, show f ≤ 0 by omega, ↓reduceIte, TK, lt_run hn, le43, Int.le_refl, Int.lt_irrefl, Option.some.injEq, exists_eq_left', true_and, and_true, if_true, if_false, decide_eq_false_iff_not, decide_eq_true_eq, Nat.reduceAdd, Nat.reduceLeDiff, Nat.reduceLT, Int.reduceAdd, Int.reduceSub, Int.reduceMul, Int.reduceNeg, not_true_eq_false, not_false_eq_true]
      exact g3
  by_cases g1 : m < 99
  case neg =>
    have g2 := fl (fun z => g1 z.1)
    rw [k270_3]
    simp +decide (maxSteps := 4000000) (disch := omega) only [k270_0, k270_1, k270_5, k270_6, k270_7, k270_8, k270_9, k270_r, k270_s, F_il1, J_ifne, T_I, T_ret, F_al0, T_putI, T_putZ, F_is2i, F_is2r, F_is2m, T_ft, F_il2, T_getR, X_iald, T_icge, T_mul, T_add, F_is3i, F_is3r, F_is3m, F_is4i, F_is4r, F_is4m, F_il4, F_il3, J_icne, F_inc4i, F_inc4r, F_inc4m, T_goto, J_ifle, J_ifge, T_icle, T_getI, c232, c233, c264, ↓s264, FM F, show 99 ≤ m by omega, ↓reduceIte, TK, lt_run hn, le43, Int.le_refl, Int.lt_irrefl, Option.some.injEq, exists_eq_left', true_and, and_true, if_true, if_false, decide_eq_false_iff_not, decide_eq_true_eq, Nat.reduceAdd, Nat.reduceLeDiff, Nat.reduceLT, Int.reduceAdd, Int.reduceSub, Int.reduceMul, Int.reduceNeg, not_true_eq_false, not_false_eq_true]
    exact g2
  by_cases g2 : f + m < N
  case neg =>
    have g3 := fl (fun z => g2 z.2.1)
    rw [k270_3]
    simp +decide (maxSteps := 4000000) (disch := omega) only [k270_0, k270_1, k270_5, k270_6, k270_7, k270_8, k270_9, k270_r, k270_s, F_il1, J_ifne, T_I, T_ret, F_al0, T_putI, T_putZ, F_is2i, F_is2r, F_is2m, T_ft, F_il2, T_getR, X_iald, T_icge, T_mul, T_add, F_is3i, F_is3r, F_is3m, F_is4i, F_is4r, F_is4m, F_il4, F_il3, J_icne, F_inc4i, F_inc4r, F_inc4m, T_goto, J_ifle, J_ifge, T_icle, T_getI, c232, c233, c264, ↓s264, FM F, d1, ln_735, show ¬ 99 ≤ m by omega, show N ≤ f + m by omega, ↓reduceIte, TK, lt_run hn, le43, Int.le_refl, Int.lt_irrefl, Option.some.injEq, exists_eq_left', true_and, and_true, if_true, if_false, decide_eq_false_iff_not, decide_eq_true_eq, Nat.reduceAdd, Nat.reduceLeDiff, Nat.reduceLT, Int.reduceAdd, Int.reduceSub, Int.reduceMul, Int.reduceNeg, not_true_eq_false, not_false_eq_true]
    exact g3
  have d3 := b3' (f + m) (by omega) g2
  rw [show 120 * y + (f + m) = 120 * y + f + m by omega] at d3
  have rfm := hR (f + m)
  by_cases g3 : R (f + m) = R f
  · rw [g3] at d3
    rw [k270_3]
    simp +decide (maxSteps := 4000000) (disch := omega) only [k270_0, k270_1, k270_5, k270_6, k270_7, k270_8, k270_9, k270_r, k270_s, F_il1, J_ifne, T_I, T_ret, F_al0, T_putI, T_putZ, F_is2i, F_is2r, F_is2m, T_ft, F_il2, T_getR, X_iald, T_icge, T_mul, T_add, F_is3i, F_is3r, F_is3m, F_is4i, F_is4r, F_is4m, F_il4, F_il3, J_icne, F_inc4i, F_inc4r, F_inc4m, T_goto, J_ifle, J_ifge, T_icle, T_getI, c232, c233, c264, ↓s264, FM F, d1, d3, ln_734, ln_735, show ¬ 99 ≤ m by omega, show ¬ N ≤ f + m by omega, ↓reduceIte, TK, lt_run hn, le43, Int.le_refl, Int.lt_irrefl, Option.some.injEq, exists_eq_left', true_and, and_true, if_true, if_false, decide_eq_false_iff_not, decide_eq_true_eq, Nat.reduceAdd, Nat.reduceLeDiff, Nat.reduceLT, Int.reduceAdd, Int.reduceSub, Int.reduceMul, Int.reduceNeg, not_true_eq_false, not_false_eq_true]
    refine ih2 (m + 1) h2 ⟨rfl, by omega, fun j j0 j1 => ?_⟩ (by omega)
    rcases (show j < m ∨ j = m by omega) with z | z
    · exact m3 j j0 z
    · rw [z]
      exact ⟨g1, g2, g3⟩
  · have g4 := fl (fun z => g3 z.2.2)
    rw [k270_3]
    simp +decide (maxSteps := 4000000) (disch := omega) only [k270_0, k270_1, k270_5, k270_6, k270_7, k270_8, k270_9, k270_r, k270_s, F_il1, J_ifne, T_I, T_ret, F_al0, T_putI, T_putZ, F_is2i, F_is2r, F_is2m, T_ft, F_il2, T_getR, X_iald, T_icge, T_mul, T_add, F_is3i, F_is3r, F_is3m, F_is4i, F_is4r, F_is4m, F_il4, F_il3, J_icne, F_inc4i, F_inc4r, F_inc4m, T_goto, J_ifle, J_ifge, T_icle, T_getI, c232, c233, c264, ↓s264, FM F, d1, d3, g3, ln_734, ln_735, show ¬ 99 ≤ m by omega, show ¬ N ≤ f + m by omega, ↓reduceIte, TK, lt_run hn, le43, Int.le_refl, Int.lt_irrefl, Option.some.injEq, exists_eq_left', true_and, and_true, if_true, if_false, decide_eq_false_iff_not, decide_eq_true_eq, Nat.reduceAdd, Nat.reduceLeDiff, Nat.reduceLT, Int.reduceAdd, Int.reduceSub, Int.reduceMul, Int.reduceNeg, not_true_eq_false, not_false_eq_true]
    exact g4
theorem tlt_b {N : Int} {R : Int → Int} (hR : ∀ f, -1 ≤ R f ∧ R f ≤ 15) : ∀ q f, Lb (tlt N R q f) := by
  intro q
  induction q with
  | zero => intro f; exact Lb_n
  | succ q ih =>
    intro f
    unfold tlt
    split
    · refine Lb.app (Lb.app (Lb.app ?_ ?_) ?_) (ih _)
      · split
        · exact Lb_1 (by decide)
        · exact Lb_n
      · split
        · exact Lb_1 (by decide)
        · have := hR f
          exact Lb_dig (by omega)
      · have rr : ∀ (q : Nat) (m : Int), 1 ≤ m → m ≤ 99 → 1 ≤ rlf N R f q m ∧ rlf N R f q m ≤ 99 := by
          intro q
          induction q with
          | zero => intro m m0 m1; exact ⟨m0, m1⟩
          | succ q ih =>
            intro m m0 m1
            unfold rlf
            split
            · exact ih (m + 1) (by omega) (by omega)
            · exact ⟨m0, m1⟩
        have r2 := rr 98 1 (by decide) (by decide)
        split
        · exact Lb.app (Lb_1 (v := 42) (by decide)) (Lb_dig (show 0 ≤ rl N R f ∧ rl N R f ≤ 99 from ⟨by unfold rl; omega, r2.2⟩))
        · exact Lb_n
    · exact Lb_n
theorem Ptold (F : FH hr) (hn : 775 ≤ n) (C : Cp6 h) (CO : CpO E h hr n) (x : Int32) : Pr2 E 161 270 [.int x] h hr n (Po (fun h' => CpO E h' hr n) 2 2 h hr n) := by
  have CO0 := CO
  obtain ⟨N, R, h1, h2, h3⟩ := C
  obtain ⟨o, b, r, cap, O1, O2, _, _, _, _, _⟩ := CO
  have O : Or E hr n r cap := ⟨O1, O2⟩
  have on := O.ne
  obtain ⟨a, ha, ha', rfl⟩ := J_of x
  unfold Pr2
  by_cases g : 0 ≤ a ∧ a ≤ 3
  case neg =>
    simp +decide (maxSteps := 4000000) (disch := omega) only [k161_0, k161_1, k161_r, k161_s, F_il1, J_ifne, T_I, T_ret, F_al0, T_getR, X_aald, T_getI, c25, c64, c158, ↓s25, ↓s158, FX F, g, ↓reduceIte, TK, lt_run hn, le43, Int.le_refl, Int.lt_irrefl, Option.some.injEq, exists_eq_left', true_and, and_true, if_true, if_false, decide_eq_false_iff_not, decide_eq_true_eq, Nat.reduceAdd, Nat.reduceLeDiff, Nat.reduceLT, Int.reduceAdd, Int.reduceSub, Int.reduceMul, Int.reduceNeg, not_true_eq_false, not_false_eq_true]
    refine ⟨_, rfl, ?_⟩
    simp +decide (maxSteps := 4000000) (disch := omega) only [k270_0, k270_1, k270_4, k270_5, k270_6, k270_7, k270_8, k270_9, k270_r, k270_s, F_il1, J_ifne, T_I, T_ret, F_al0, T_putI, T_putZ, F_is2i, F_is2r, F_is2m, T_ft, F_il2, T_getR, X_iald, T_icge, T_mul, T_add, F_is3i, F_is3r, F_is3m, F_is4i, F_is4r, F_is4m, F_il4, F_il3, J_icne, F_inc4i, F_inc4r, F_inc4m, T_goto, J_ifle, J_ifge, T_icle, T_getI, c232, c233, c264, ↓s264, FM F, g, ↓reduceIte, TK, lt_run hn, le43, Int.le_refl, Int.lt_irrefl, Option.some.injEq, exists_eq_left', true_and, and_true, if_true, if_false, decide_eq_false_iff_not, decide_eq_true_eq, Nat.reduceAdd, Nat.reduceLeDiff, Nat.reduceLT, Int.reduceAdd, Int.reduceSub, Int.reduceMul, Int.reduceNeg, not_true_eq_false, not_false_eq_true]
    first | exact ⟨rfl, ⟨CO0, Kp.refl⟩, rfl, rfl⟩ | exact ⟨⟨CO0, Kp.refl⟩, rfl, rfl⟩ | exact ⟨CO0, Kp.refl⟩
  have x1 := X90 E F g.1 (show a < 4 by omega)
  obtain ⟨b1, b2, b3⟩ := h3 a g.1 (by omega)
  have nr := h1 a
  simp +decide (maxSteps := 4000000) (disch := omega) only [k161_0, k161_1, k161_r, k161_s, F_il1, J_ifne, T_I, T_ret, F_al0, T_getR, X_aald, T_getI, c25, c64, c158, ↓s158, FX F, g, x1, kd_90, ln_90, kd_46, ↓s25 O1, ↓reduceIte, TK, lt_run hn, le43, Int.le_refl, Int.lt_irrefl, Option.some.injEq, exists_eq_left', true_and, and_true, if_true, if_false, decide_eq_false_iff_not, decide_eq_true_eq, Nat.reduceAdd, Nat.reduceLeDiff, Nat.reduceLT, Int.reduceAdd, Int.reduceSub, Int.reduceMul, Int.reduceNeg, not_true_eq_false, not_false_eq_true]
  have e0 : Ef (Sw r) h (hI h 46 1 (J 0)) := Ef.refl.hI (Or.inl ⟨rfl, rfl⟩)
  refine w64 F hn O g.1 (by omega) nr (h2 a) (by rw [e0 _ _ (by unfold Sw; omega)]; exact b1) (fun f f0 f1 => by rw [e0.g (by unfold Sw; omega)]; exact (b3 f f0 f1).1) ⟨hI_s, fun i i0 i1 => by have : i < 0 := i1; omega⟩ (fun h4 C4 l4 e4 => ?_)
  have c4 := C4.1
  simp +decide (maxSteps := 4000000) (disch := omega) only [k161_0, k161_1, k161_r, k161_s, F_il1, J_ifne, T_I, T_ret, F_al0, T_getR, X_aald, T_getI, c25, c64, c158, ↓s25, ↓s158, FX F, c4, ↓reduceIte, TK, lt_run hn, le43, Int.le_refl, Int.lt_irrefl, Option.some.injEq, exists_eq_left', true_and, and_true, if_true, if_false, decide_eq_false_iff_not, decide_eq_true_eq, Nat.reduceAdd, Nat.reduceLeDiff, Nat.reduceLT, Int.reduceAdd, Int.reduceSub, Int.reduceMul, Int.reduceNeg, not_true_eq_false, not_false_eq_true]
  refine ⟨_, rfl, ?_⟩
  have e5 := e0.trans e4
  refine w270 F hn g.1 (by omega) nr (h2 a) (by rw [e5.g (by unfold Sw; omega)]; exact b2) (fun f f0 f1 => by rw [e5.g (by unfold Sw; omega)]; exact (b3 f f0 f1).2) (fun h6 C6 e6 => ⟨rfl, ⟨?_, ?_⟩, rfl, rfl⟩)
  · exact CpO_of O (by omega) (tlt_b (h2 a) _ _) (C4.ef O e6) C6
  · exact Kp.trans (Kp.of e5 fun a k q => Or.inr (Or.inl (sys_w O q))) (Kp.of e6 fun a k q => Or.inr (Or.inl (sys_v q)))
end TD
