/-! track -/
def trs (b : Int → Int) (t : Int) : Nat → Int → Int → (Int → Int) → Int × Int × (Int → Int)
  | 0, _, _, D => (0, 0, D)
  | q + 1, m, p, D => if m = 100 then (p, 0, D) else if (intC b t (-100) 100 p (-1)).2.2 = -1 then (if t ≤ (intC b t (-100) 100 p (-1)).2.1 then (-1, m + 1, upd1 D m (intC b t (-100) 100 p (-1)).1) else if bt b t (intC b t (-100) 100 p (-1)).2.1 = 32 then trs b t q (m + 1) ((intC b t (-100) 100 p (-1)).2.1 + 1) (upd1 D m (intC b t (-100) 100 p (-1)).1) else ((intC b t (-100) 100 p (-1)).2.1, 0, D)) else ((intC b t (-100) 100 p (-1)).2.2, 0, D)
def rdT (b : Int → Int) (t : Int) : Int × Int × (Int → Int) := if 0 < t then trs b t 101 0 0 (fun _ => 0) else (-1, 0, fun _ => 0)
def Rtk (D : Int → Int) : Prop := ∀ j, -100 ≤ D j ∧ D j ≤ 100
theorem Rtk_0 : Rtk (fun _ => 0) := fun _ => by dsimp only; omega
theorem Rtk_u {D : Int → Int} {m v : Int} (h : Rtk D) (hv : -100 ≤ v ∧ v ≤ 100) : Rtk (upd1 D m v) := fun j => by
  unfold upd1
  split
  · exact hv
  · exact h j
def Rk (h : AHi) (a : Nat) (m : Int) (D : Int → Int) : Prop := ∀ j, 0 ≤ j → j < m → gA h a j = J (D j)
section TR
variable {E : AEn} {h h' : AHi} {hr : AHr} {n : Nat} {Q : ARs → Prop} {l t p f m k w : Int} {b D : Int → Int}
theorem trs_b (ht : 0 ≤ t ∧ t ≤ 1600) (hb : ∀ i, 0 ≤ b i ∧ b i ≤ 255) : ∀ (q : Nat) (m p : Int) (D : Int → Int), m + q = 101 → 0 < q → 0 ≤ p → p ≤ t → 0 ≤ m → Rtk D → ((trs b t q m p D).1 = -1 ∨ 0 ≤ (trs b t q m p D).1 ∧ (trs b t q m p D).1 ≤ 1700) ∧ ((trs b t q m p D).1 = -1 → (0 ≤ (trs b t q m p D).2.1 ∧ (trs b t q m p D).2.1 ≤ 100) ∧ Rtk (trs b t q m p D).2.2) := by
  intro q
  induction q with
  | zero => intro m p D q0 q1; omega
  | succ q ih =>
    intro m p D q0 _ p0 p1 m0 hD
    have ib := int_b (t := t) (f := -1) hb ht (-100) 100 (p := p) (by omega) (Or.inl rfl)
    have ir := (int_rel (b := b) (t := t) hb (lo := -100) (hi := 100) (p := p) p0).2
    unfold trs
    generalize intC b t (-100) 100 p (-1) = r at *
    by_cases g0 : m = 100
    · rw [if_pos g0]
      exact ⟨Or.inr (by dsimp only; omega), fun z => by dsimp only at z; omega⟩
    rw [if_neg g0]
    by_cases g : r.2.2 = -1
    · obtain ⟨_, u1, u2, u3⟩ := ir g
      rw [if_pos g]
      by_cases g1 : t ≤ r.2.1
      · rw [if_pos g1]
        exact ⟨Or.inl rfl, fun _ => ⟨by dsimp only; omega, Rtk_u hD u1⟩⟩
      · rw [if_neg g1]
        by_cases g2 : bt b t r.2.1 = 32
        · rw [if_pos g2]
          exact ih _ _ _ (by omega) (by omega) (by omega) (by omega) (by omega) (Rtk_u hD u1)
        · rw [if_neg g2]
          exact ⟨Or.inr (by dsimp only; omega), fun z => by dsimp only at z; omega⟩
    · rw [if_neg g]
      exact ⟨ib.2.1, fun z => absurd z g⟩
theorem rdT_b (ht : 0 ≤ t ∧ t ≤ 1600) (hb : ∀ i, 0 ≤ b i ∧ b i ≤ 255) : ((rdT b t).1 = -1 ∨ 0 ≤ (rdT b t).1 ∧ (rdT b t).1 ≤ 1700) ∧ ((rdT b t).1 = -1 → (0 ≤ (rdT b t).2.1 ∧ (rdT b t).2.1 ≤ 100) ∧ Rtk (rdT b t).2.2) := by
  unfold rdT
  split
  · exact trs_b ht hb 101 0 0 _ (by omega) (by decide) (by decide) (by omega) (by decide) Rtk_0
  · exact ⟨Or.inl rfl, fun _ => ⟨⟨by decide, by decide⟩, Rtk_0⟩⟩
theorem Rk_u {a : Nat} (R : Rk h a m D) (m0 : 0 ≤ m) {v : Int} : Rk (sA h a m (J v)) a (m + 1) (upd1 D m v) := fun j j0 j1 => by
  unfold upd1
  by_cases e : j = m
  · rw [e, gs_s, if_pos rfl]
  · rw [gs_k m0 j0 e, if_neg e]
    exact R j j0 (by omega)
theorem f152_3 (F : FH hr) : hr 152 (Int.toNat 3) = some 156 := (F 152 3 (by decide +kernel)).trans (by decide +kernel)
theorem z207 (F : FH hr) (hn : 775 ≤ n) {v1 v2 : Int32} : ∀ (q : Nat) (p m : Int) (D : Int → Int) (h : AHi), m + q = 101 → 0 < q → 0 ≤ p → p ≤ t → 0 ≤ m → Rtk D → TpC h t b → Rk h 156 m D →
    (∀ h' p' m' (v5 v6 : Int32), 0 ≤ p' → p' ≤ 1700 → Ef (fun a k => a = 156) h h' → ((trs b t q m p D).1 = -1 → m' = (trs b t q m p D).2.1 ∧ Rk h' 156 (trs b t q m p D).2.1 (trs b t q m p D).2.2) → Tm E 207 (a_bl 207 4) [.ref 43, .int v1, .int v2, .ref 156, .int (J m'), .int v5, .int v6] [] (RS h' p' (trs b t q m p D).1) hr n Q) →
    Tm E 207 (a_bl 207 1) [.ref 43, .int v1, .int v2, .ref 156, .int (J m), .int (J 1), .int (J m)] [] (RS h p (-1)) hr n Q := by
  intro q
  induction q with
  | zero => intro p m D h q0 q1; omega
  | succ q ih =>
    intro p m D h q0 _ p0 p1 m0 hD T R kk
    have t1 := T.1
    have ib := int_b (t := t) (f := -1) T.2.1 T.1 (-100) 100 (p := p) (by omega) (Or.inl rfl)
    have ir := (int_rel (b := b) (t := t) T.2.1 (lo := -100) (hi := 100) (p := p) p0).2
    unfold trs at kk
    by_cases g0 : m = 100
    · rw [if_pos g0] at kk
      have f1 : p ≠ -1 := by omega
      have fin := kk h p m (J 0) (J (m + 1)) p0 (by omega) Ef.refl (fun z => absurd z f1)
      subst g0
      rw [k207_1]
      simp +decide (maxSteps := 4000000) (disch := omega) only [k207_0, k207_2, k207_3, k207_5, k207_r, k207_s, F_al0, T_getR, T_I, X_aald, F_as3i, F_as3r, F_as3m, F_is4i, F_is4r, F_is4m, F_is5i, F_is5r, F_is5m, F_is6i, F_is6r, F_is6m, T_ft, F_il5, J_ifeq, F_il6, T_icgt, F_il4, T_icge, F_al3, T_iast, F_inc4i, F_inc4r, F_inc4m, T_goto, T_getI, F_inc6i, F_inc6r, F_inc6m, J_ifne, T_ret, F_il1, J_cp, F_il2, c13, c16, c18, c20, c21, c24, c27, ↓s13, ↓s16, ↓s21, ↓s24, ↓s27, FX F, RX, ↓s18 F hn, ↓s20 F hn T, rf_y, f1, false_and, kd_44, ↓reduceIte, TK, lt_run hn, le43, Int.le_refl, Int.lt_irrefl, Option.some.injEq, exists_eq_left', true_and, and_true, if_true, if_false, decide_eq_false_iff_not, decide_eq_true_eq, Nat.reduceAdd, Nat.reduceLeDiff, Nat.reduceLT, Int.reduceAdd, Int.reduceSub, Int.reduceMul, Int.reduceNeg, not_true_eq_false, not_false_eq_true]
      rw [k207_1]
      simp +decide (maxSteps := 4000000) (disch := omega) only [k207_0, k207_2, k207_3, k207_5, k207_r, k207_s, F_al0, T_getR, T_I, X_aald, F_as3i, F_as3r, F_as3m, F_is4i, F_is4r, F_is4m, F_is5i, F_is5r, F_is5m, F_is6i, F_is6r, F_is6m, T_ft, F_il5, J_ifeq, F_il6, T_icgt, F_il4, T_icge, F_al3, T_iast, F_inc4i, F_inc4r, F_inc4m, T_goto, T_getI, F_inc6i, F_inc6r, F_inc6m, J_ifne, T_ret, F_il1, J_cp, F_il2, c13, c16, c18, c20, c21, c24, c27, ↓s13, ↓s16, ↓s18, ↓s20, ↓s21, ↓s24, ↓s27, ↓reduceIte, TK, lt_run hn, le43, Int.le_refl, Int.lt_irrefl, Option.some.injEq, exists_eq_left', true_and, and_true, if_true, if_false, decide_eq_false_iff_not, decide_eq_true_eq, Nat.reduceAdd, Nat.reduceLeDiff, Nat.reduceLT, Int.reduceAdd, Int.reduceSub, Int.reduceMul, Int.reduceNeg, not_true_eq_false, not_false_eq_true]
      exact fin
    rw [if_neg g0] at kk
    rw [k207_1]
    simp +decide (maxSteps := 4000000) (disch := omega) only [k207_0, k207_2, k207_5, k207_r, k207_s, F_al0, T_getR, T_I, X_aald, F_as3i, F_as3r, F_as3m, F_is4i, F_is4r, F_is4m, F_is5i, F_is5r, F_is5m, F_is6i, F_is6r, F_is6m, T_ft, F_il5, J_ifeq, F_il6, T_icgt, F_il4, T_icge, F_al3, T_iast, F_inc4i, F_inc4r, F_inc4m, T_goto, T_getI, F_inc6i, F_inc6r, F_inc6m, J_ifne, T_ret, F_il1, J_cp, F_il2, c13, c16, c18, c20, c21, c24, c27, ↓s13, ↓s16, ↓s18, ↓s20, ↓s21, ↓s24, FX F, ↓s27 F hn T, kd_44, kd_156, ln_156, show ¬ 100 < m by omega, show ¬ 100 ≤ m by omega, ↓reduceIte, TK, lt_run hn, le43, Int.le_refl, Int.lt_irrefl, Option.some.injEq, exists_eq_left', true_and, and_true, if_true, if_false, decide_eq_false_iff_not, decide_eq_true_eq, Nat.reduceAdd, Nat.reduceLeDiff, Nat.reduceLT, Int.reduceAdd, Int.reduceSub, Int.reduceMul, Int.reduceNeg, not_true_eq_false, not_false_eq_true]
    rw [RS_d (by decide)]
    have T1 : TpC (sA h 156 m (J (intC b t (-100) 100 p (-1)).1)) t b := T.ef (S := fun a k => a = 156) (Ef.refl.sA rfl) (by decide) (fun k => by decide)
    have R1 := Rk_u (v := (intC b t (-100) 100 p (-1)).1) R m0
    have e1 : Ef (fun a k => a = 156) h (sA h 156 m (J (intC b t (-100) 100 p (-1)).1)) := Ef.refl.sA rfl
    rw [k207_3]
    generalize intC b t (-100) 100 p (-1) = r at *
    by_cases g : r.2.2 = -1
    · obtain ⟨_, u1, u2, u3⟩ := ir g
      rw [if_pos g] at kk
      rw [g]
      by_cases g1 : t ≤ r.2.1
      · rw [if_pos g1] at kk
        have fin := kk _ r.2.1 (m + 1) (J 0) (J (m + 1)) (by omega) (by omega) e1 (fun _ => ⟨rfl, R1⟩)
        simp +decide (maxSteps := 4000000) (disch := omega) only [k207_0, k207_2, k207_3, k207_4, k207_5, k207_r, k207_s, F_al0, T_getR, T_I, X_aald, F_as3i, F_as3r, F_as3m, F_is4i, F_is4r, F_is4m, F_is5i, F_is5r, F_is5m, F_is6i, F_is6r, F_is6m, T_ft, F_il5, J_ifeq, F_il6, T_icgt, F_il4, T_icge, F_al3, T_iast, F_inc4i, F_inc4r, F_inc4m, T_goto, T_getI, F_inc6i, F_inc6r, F_inc6m, J_ifne, T_ret, F_il1, J_cp, F_il2, c13, c16, c18, c20, c21, c24, c27, ↓s13, ↓s16, ↓s18, ↓s21, ↓s24, ↓s27, FX F, ↓s20 F hn T1, show ¬ r.2.1 < t by omega, kd_44, ↓reduceIte, TK, lt_run hn, le43, Int.le_refl, Int.lt_irrefl, Option.some.injEq, exists_eq_left', true_and, and_true, if_true, if_false, decide_eq_false_iff_not, decide_eq_true_eq, Nat.reduceAdd, Nat.reduceLeDiff, Nat.reduceLT, Int.reduceAdd, Int.reduceSub, Int.reduceMul, Int.reduceNeg, not_true_eq_false, not_false_eq_true]
        rw [k207_1]
        simp +decide (maxSteps := 4000000) (disch := omega) only [k207_0, k207_2, k207_3, k207_5, k207_r, k207_s, F_al0, T_getR, T_I, X_aald, F_as3i, F_as3r, F_as3m, F_is4i, F_is4r, F_is4m, F_is5i, F_is5r, F_is5m, F_is6i, F_is6r, F_is6m, T_ft, F_il5, J_ifeq, F_il6, T_icgt, F_il4, T_icge, F_al3, T_iast, F_inc4i, F_inc4r, F_inc4m, T_goto, T_getI, F_inc6i, F_inc6r, F_inc6m, J_ifne, T_ret, F_il1, J_cp, F_il2, c13, c16, c18, c20, c21, c24, c27, ↓s13, ↓s16, ↓s18, ↓s20, ↓s21, ↓s24, ↓s27, ↓reduceIte, TK, lt_run hn, le43, Int.le_refl, Int.lt_irrefl, Option.some.injEq, exists_eq_left', true_and, and_true, if_true, if_false, decide_eq_false_iff_not, decide_eq_true_eq, Nat.reduceAdd, Nat.reduceLeDiff, Nat.reduceLT, Int.reduceAdd, Int.reduceSub, Int.reduceMul, Int.reduceNeg, not_true_eq_false, not_false_eq_true]
        exact fin
      · rw [if_neg g1] at kk
        by_cases g2 : bt b t r.2.1 = 32
        · rw [if_pos g2] at kk
          simp +decide (maxSteps := 4000000) (disch := omega) only [k207_0, k207_2, k207_3, k207_4, k207_5, k207_r, k207_s, F_al0, T_getR, T_I, X_aald, F_as3i, F_as3r, F_as3m, F_is4i, F_is4r, F_is4m, F_is5i, F_is5r, F_is5m, F_is6i, F_is6r, F_is6m, T_ft, F_il5, J_ifeq, F_il6, T_icgt, F_il4, T_icge, F_al3, T_iast, F_inc4i, F_inc4r, F_inc4m, T_goto, T_getI, F_inc6i, F_inc6r, F_inc6m, J_ifne, T_ret, F_il1, J_cp, F_il2, c13, c16, c18, c20, c21, c24, c27, ↓s13, ↓s16, ↓s18, ↓s21, ↓s24, ↓s27, FX F, ↓s20 F hn T1, show r.2.1 < t by omega, g2, kd_44, ↓reduceIte, TK, lt_run hn, le43, Int.le_refl, Int.lt_irrefl, Option.some.injEq, exists_eq_left', true_and, and_true, if_true, if_false, decide_eq_false_iff_not, decide_eq_true_eq, Nat.reduceAdd, Nat.reduceLeDiff, Nat.reduceLT, Int.reduceAdd, Int.reduceSub, Int.reduceMul, Int.reduceNeg, not_true_eq_false, not_false_eq_true]
          exact ih (r.2.1 + 1) (m + 1) _ _ (by omega) (by omega) (by omega) (by omega) (by omega) (Rtk_u hD u1) T1 R1 (fun h' p' m' v5 v6 a1 a2 a3 => kk h' p' m' v5 v6 a1 a2 (e1.trans a3))
        · rw [if_neg g2] at kk
          have fin := kk _ r.2.1 (m + 1) (J 0) (J (m + 1)) (by omega) (by omega) e1 (fun z => by dsimp only at z; omega)
          simp +decide (maxSteps := 4000000) (disch := omega) only [k207_0, k207_2, k207_3, k207_4, k207_5, k207_r, k207_s, F_al0, T_getR, T_I, X_aald, F_as3i, F_as3r, F_as3m, F_is4i, F_is4r, F_is4m, F_is5i, F_is5r, F_is5m, F_is6i, F_is6r, F_is6m, T_ft, F_il5, J_ifeq, F_il6, T_icgt, F_il4, T_icge, F_al3, T_iast, F_inc4i, F_inc4r, F_inc4m, T_goto, T_getI, F_inc6i, F_inc6r, F_inc6m, J_ifne, T_ret, F_il1, J_cp, F_il2, c13, c16, c18, c20, c21, c24, c27, ↓s13, ↓s16, ↓s18, ↓s21, ↓s24, ↓s27, FX F, ↓s20 F hn T1, show r.2.1 < t by omega, g2, kd_44, ↓reduceIte, TK, lt_run hn, le43, Int.le_refl, Int.lt_irrefl, Option.some.injEq, exists_eq_left', true_and, and_true, if_true, if_false, decide_eq_false_iff_not, decide_eq_true_eq, Nat.reduceAdd, Nat.reduceLeDiff, Nat.reduceLT, Int.reduceAdd, Int.reduceSub, Int.reduceMul, Int.reduceNeg, not_true_eq_false, not_false_eq_true]
          rw [k207_1]
          simp +decide (maxSteps := 4000000) (disch := omega) only [k207_0, k207_2, k207_3, k207_5, k207_r, k207_s, F_al0, T_getR, T_I, X_aald, F_as3i, F_as3r, F_as3m, F_is4i, F_is4r, F_is4m, F_is5i, F_is5r, F_is5m, F_is6i, F_is6r, F_is6m, T_ft, F_il5, J_ifeq, F_il6, T_icgt, F_il4, T_icge, F_al3, T_iast, F_inc4i, F_inc4r, F_inc4m, T_goto, T_getI, F_inc6i, F_inc6r, F_inc6m, J_ifne, T_ret, F_il1, J_cp, F_il2, c13, c16, c18, c20, c21, c24, c27, ↓s13, ↓s16, ↓s18, ↓s20, ↓s21, ↓s24, ↓s27, ↓reduceIte, TK, lt_run hn, le43, Int.le_refl, Int.lt_irrefl, Option.some.injEq, exists_eq_left', true_and, and_true, if_true, if_false, decide_eq_false_iff_not, decide_eq_true_eq, Nat.reduceAdd, Nat.reduceLeDiff, Nat.reduceLT, Int.reduceAdd, Int.reduceSub, Int.reduceMul, Int.reduceNeg, not_true_eq_false, not_false_eq_true]
          exact fin
    · rw [if_neg g] at kk
      have fb := ib.2.1
      have fin := kk _ r.2.1 (m + 1) (J 0) (J (m + 1)) (by omega) (by omega) e1 (fun z => absurd z g)
      simp +decide (maxSteps := 4000000) (disch := omega) only [k207_0, k207_2, k207_3, k207_4, k207_5, k207_r, k207_s, F_al0, T_getR, T_I, X_aald, F_as3i, F_as3r, F_as3m, F_is4i, F_is4r, F_is4m, F_is5i, F_is5r, F_is5m, F_is6i, F_is6r, F_is6m, T_ft, F_il5, J_ifeq, F_il6, T_icgt, F_il4, T_icge, F_al3, T_iast, F_inc4i, F_inc4r, F_inc4m, T_goto, T_getI, F_inc6i, F_inc6r, F_inc6m, J_ifne, T_ret, F_il1, J_cp, F_il2, c13, c16, c18, c20, c21, c24, c27, ↓s13, ↓s16, ↓s18, ↓s21, ↓s24, ↓s27, FX F, ↓s20 F hn T1, g, false_and, kd_44, ↓reduceIte, TK, lt_run hn, le43, Int.le_refl, Int.lt_irrefl, Option.some.injEq, exists_eq_left', true_and, and_true, if_true, if_false, decide_eq_false_iff_not, decide_eq_true_eq, Nat.reduceAdd, Nat.reduceLeDiff, Nat.reduceLT, Int.reduceAdd, Int.reduceSub, Int.reduceMul, Int.reduceNeg, not_true_eq_false, not_false_eq_true]
      rw [k207_1]
      simp +decide (maxSteps := 4000000) (disch := omega) only [k207_0, k207_2, k207_3, k207_5, k207_r, k207_s, F_al0, T_getR, T_I, X_aald, F_as3i, F_as3r, F_as3m, F_is4i, F_is4r, F_is4m, F_is5i, F_is5r, F_is5m, F_is6i, F_is6r, F_is6m, T_ft, F_il5, J_ifeq, F_il6, T_icgt, F_il4, T_icge, F_al3, T_iast, F_inc4i, F_inc4r, F_inc4m, T_goto, T_getI, F_inc6i, F_inc6r, F_inc6m, J_ifne, T_ret, F_il1, J_cp, F_il2, c13, c16, c18, c20, c21, c24, c27, ↓s13, ↓s16, ↓s18, ↓s20, ↓s21, ↓s24, ↓s27, ↓reduceIte, TK, lt_run hn, le43, Int.le_refl, Int.lt_irrefl, Option.some.injEq, exists_eq_left', true_and, and_true, if_true, if_false, decide_eq_false_iff_not, decide_eq_true_eq, Nat.reduceAdd, Nat.reduceLeDiff, Nat.reduceLT, Int.reduceAdd, Int.reduceSub, Int.reduceMul, Int.reduceNeg, not_true_eq_false, not_false_eq_true]
      exact fin
/-- what the class's reading of a track changes -/
def Str (a k : Nat) : Prop := (a = 44 ∧ (k = 2 ∨ k = 3)) ∨ a = 156
theorem w207 (F : FH hr) (hn : 775 ≤ n) (l0 : 0 ≤ l) (l1 : l < 3) (T : TpC h t b) {y : Int} (hy : 0 ≤ y ∧ y ≤ 999)
    (k1 : ∀ h', Ef Str h h' → (rdT b t).1 ≠ -1 → Q (some (.int (J (-1000 - (rdT b t).1))), h', hr, n))
    (k2 : ∀ h', Ef (fun a k => Str a k ∨ a = 153 + l.toNat ∨ (a = 157 ∧ k = l.toNat) ∨ (a = 158 ∧ k = l.toNat)) h h' → (rdT b t).1 = -1 → gA h' 157 l = J (rdT b t).2.1 → gA h' 158 l = J y → (∀ f, 0 ≤ f → f < (rdT b t).2.1 → gA h' (153 + l.toNat) f = J ((rdT b t).2.2 f)) → Q (some (.int (J (rdT b t).2.1)), h', hr, n)) : Sp E 207 [.ref 43, .int (J l), .int (J y)] h hr n Q := by
  have x1 := X152 E F l0 (show l < 4 by omega)
  have t1 := T.1
  have rb := rdT_b T.1 T.2.1
  have eR : ∀ {h : AHi} {p f : Int}, Ef Str h (RS h p f) := fun {h p f} => Ef_RS.mono fun a k q => Or.inl q
  have last : ∀ h1 w m' (v5 v6 : Int32), 0 ≤ w → w ≤ 1700 → Ef (fun a k => a = 156) h h1 → ((rdT b t).1 = -1 → m' = (rdT b t).2.1 ∧ Rk h1 156 (rdT b t).2.1 (rdT b t).2.2) → Tm E 207 (a_bl 207 4) [.ref 43, .int (J l), .int (J y), .ref 156, .int (J m'), .int v5, .int v6] [] (RS h1 w (rdT b t).1) hr n Q := fun h1 w m' v5 v6 w0 w1 e1 gd => by
    have e2 : Ef Str h h1 := e1.mono fun a k q => Or.inr q
    rw [k207_4]
    by_cases g : (rdT b t).1 = -1
    · obtain ⟨rfl, R1⟩ := gd g
      obtain ⟨u1, u2⟩ := rb.2 g
      have k3 := fun h' q => k2 h' q g
      rw [g]
      have q1 : a_ln E (153 + l.toNat) = 100 := x1.2.2
      have q2 : a_ln E 156 = 100 := ln_156 E
      simp +decide (maxSteps := 4000000) (disch := omega) only [k207_0, k207_2, k207_3, k207_4, k207_5, k207_r, k207_s, F_al0, T_getR, T_I, X_aald, F_as3i, F_as3r, F_as3m, F_is4i, F_is4r, F_is4m, F_is5i, F_is5r, F_is5m, F_is6i, F_is6r, F_is6m, T_ft, F_il5, J_ifeq, F_il6, T_icgt, F_il4, T_icge, F_al3, T_iast, F_inc4i, F_inc4r, F_inc4m, T_goto, T_getI, F_inc6i, F_inc6r, F_inc6m, J_ifne, T_ret, F_il1, J_cp, F_il2, c13, c16, c18, c20, c21, c24, c27, ↓s13, ↓s18, ↓s20, ↓s21, ↓s24, ↓s27, FX F, x1, ↓s16 F hn, kd_44, kd_152, ln_152, kd_156, ln_156, ln_157, ln_158, true_or, ↓reduceIte, TK, lt_run hn, le43, Int.le_refl, Int.lt_irrefl, Option.some.injEq, exists_eq_left', true_and, and_true, if_true, if_false, decide_eq_false_iff_not, decide_eq_true_eq, Nat.reduceAdd, Nat.reduceLeDiff, Nat.reduceLT, Int.reduceAdd, Int.reduceSub, Int.reduceMul, Int.reduceNeg, not_true_eq_false, not_false_eq_true]
      refine k3 _ ?_ ?_ gs_s (fun f f0 f1 => ?_)
      · refine Ef.sA (Ef.sA (cp_e ((e2.trans eR).mono fun a k q => Or.inl q) (fun k => Or.inr (Or.inl rfl))) (Or.inr (Or.inr (Or.inl ⟨rfl, rfl⟩)))) (Or.inr (Or.inr (Or.inr ⟨rfl, rfl⟩)))
      · rw [gs_o (by decide), gs_s]
      · rw [gs_o (by omega), gs_o (by omega), cp_g (by omega) (by omega) (by omega) f0, if_pos (by omega), RS_g (by decide), show 0 + (f - 0) = f by omega]
        exact R1 f f0 f1
    · have fb := rb.1
      simp +decide (maxSteps := 4000000) (disch := omega) only [k207_0, k207_2, k207_3, k207_4, k207_5, k207_r, k207_s, F_al0, T_getR, T_I, X_aald, F_as3i, F_as3r, F_as3m, F_is4i, F_is4r, F_is4m, F_is5i, F_is5r, F_is5m, F_is6i, F_is6r, F_is6m, T_ft, F_il5, J_ifeq, F_il6, T_icgt, F_il4, T_icge, F_al3, T_iast, F_inc4i, F_inc4r, F_inc4m, T_goto, T_getI, F_inc6i, F_inc6r, F_inc6m, J_ifne, T_ret, F_il1, J_cp, F_il2, c13, c16, c18, c20, c21, c24, c27, ↓s13, ↓s18, ↓s20, ↓s21, ↓s27, FX F, ↓s16 F hn, ↓s24 F hn, g, kd_44, ↓reduceIte, TK, lt_run hn, le43, Int.le_refl, Int.lt_irrefl, Option.some.injEq, exists_eq_left', true_and, and_true, if_true, if_false, decide_eq_false_iff_not, decide_eq_true_eq, Nat.reduceAdd, Nat.reduceLeDiff, Nat.reduceLT, Int.reduceAdd, Int.reduceSub, Int.reduceMul, Int.reduceNeg, not_true_eq_false, not_false_eq_true]
      exact k1 _ (e2.trans eR) g
  unfold rdT at last
  by_cases g : 0 < t
  · rw [if_pos g] at last
    simp +decide (maxSteps := 4000000) (disch := omega) only [k207_0, k207_2, k207_3, k207_4, k207_5, k207_r, k207_s, F_al0, T_getR, T_I, X_aald, F_as3i, F_as3r, F_as3m, F_is4i, F_is4r, F_is4m, F_is5i, F_is5r, F_is5m, F_is6i, F_is6r, F_is6m, T_ft, F_il5, J_ifeq, F_il6, T_icgt, F_il4, T_icge, F_al3, T_iast, F_inc4i, F_inc4r, F_inc4m, T_goto, T_getI, F_inc6i, F_inc6r, F_inc6m, J_ifne, T_ret, F_il1, J_cp, F_il2, c13, c16, c18, c20, c21, c24, c27, ↓s16, ↓s18, ↓s20, ↓s24, ↓s27, FX F, f152_3 F, ↓s13 F hn, ↓s21 F hn T, kd_44, kd_152, ln_152, g, ↓reduceIte, TK, lt_run hn, le43, Int.le_refl, Int.lt_irrefl, Option.some.injEq, exists_eq_left', true_and, and_true, if_true, if_false, decide_eq_false_iff_not, decide_eq_true_eq, Nat.reduceAdd, Nat.reduceLeDiff, Nat.reduceLT, Int.reduceAdd, Int.reduceSub, Int.reduceMul, Int.reduceNeg, not_true_eq_false, not_false_eq_true]
    exact z207 F hn 101 0 0 (fun _ => 0) h (by omega) (by decide) (by decide) (by omega) (by decide) Rtk_0 T (fun j j0 j1 => by omega) last
  · rw [if_neg g] at last
    have fin := last h 0 0 (J 0) (J 0) (by decide) (by decide) Ef.refl (fun _ => ⟨rfl, fun j j0 j1 => by dsimp only at j1; omega⟩)
    simp +decide (maxSteps := 4000000) (disch := omega) only [k207_0, k207_2, k207_3, k207_4, k207_5, k207_r, k207_s, F_al0, T_getR, T_I, X_aald, F_as3i, F_as3r, F_as3m, F_is4i, F_is4r, F_is4m, F_is5i, F_is5r, F_is5m, F_is6i, F_is6r, F_is6m, T_ft, F_il5, J_ifeq, F_il6, T_icgt, F_il4, T_icge, F_al3, T_iast, F_inc4i, F_inc4r, F_inc4m, T_goto, T_getI, F_inc6i, F_inc6r, F_inc6m, J_ifne, T_ret, F_il1, J_cp, F_il2, c13, c16, c18, c20, c21, c24, c27, ↓s16, ↓s18, ↓s20, ↓s24, ↓s27, FX F, f152_3 F, ↓s13 F hn, ↓s21 F hn T, kd_44, kd_152, ln_152, g, ↓reduceIte, TK, lt_run hn, le43, Int.le_refl, Int.lt_irrefl, Option.some.injEq, exists_eq_left', true_and, and_true, if_true, if_false, decide_eq_false_iff_not, decide_eq_true_eq, Nat.reduceAdd, Nat.reduceLeDiff, Nat.reduceLT, Int.reduceAdd, Int.reduceSub, Int.reduceMul, Int.reduceNeg, not_true_eq_false, not_false_eq_true]
    rw [k207_1]
    simp +decide (maxSteps := 4000000) (disch := omega) only [k207_0, k207_2, k207_3, k207_5, k207_r, k207_s, F_al0, T_getR, T_I, X_aald, F_as3i, F_as3r, F_as3m, F_is4i, F_is4r, F_is4m, F_is5i, F_is5r, F_is5m, F_is6i, F_is6r, F_is6m, T_ft, F_il5, J_ifeq, F_il6, T_icgt, F_il4, T_icge, F_al3, T_iast, F_inc4i, F_inc4r, F_inc4m, T_goto, T_getI, F_inc6i, F_inc6r, F_inc6m, J_ifne, T_ret, F_il1, J_cp, F_il2, c13, c16, c18, c20, c21, c24, c27, ↓s13, ↓s16, ↓s18, ↓s20, ↓s21, ↓s24, ↓s27, ↓reduceIte, TK, lt_run hn, le43, Int.le_refl, Int.lt_irrefl, Option.some.injEq, exists_eq_left', true_and, and_true, if_true, if_false, decide_eq_false_iff_not, decide_eq_true_eq, Nat.reduceAdd, Nat.reduceLeDiff, Nat.reduceLT, Int.reduceAdd, Int.reduceSub, Int.reduceMul, Int.reduceNeg, not_true_eq_false, not_false_eq_true]
    exact fin
end TR
