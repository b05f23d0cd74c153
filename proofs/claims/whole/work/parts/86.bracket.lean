/-! sheet: brackets -/
def itr (b : Int → Int) (t : Int) : Nat → Qd → Qd
  | 0, r => (0, 0, 0, r.2.2.2)
  | q + 1, r => if r.1 = -1 then (if bt b t r.2.1 = 32 then itr b t q (itq b t r.2.2.1 (r.2.1 + 1) r.2.2.2) else if bt b t r.2.1 = 41 then (-1, r.2.1 + 1, r.2.2.1, r.2.2.2) else (r.2.1, 0, 0, r.2.2.2)) else r
def rpD (r : Qd) (m : Int) : Int → Int := fun j => if j < r.2.2.1 then r.2.2.2 j else r.2.2.2 (m + (j - m) % (r.2.2.1 - m))
def br3 (m p : Int) (r : Qd) (k w : Int) : Qd := if m + (r.2.2.1 - m) * k ≤ 120 then (-1, w, m + (r.2.2.1 - m) * k, rpD r m) else (p, 0, 0, r.2.2.2)
def br2 (b : Int → Int) (t m p : Int) (r : Qd) : Qd := if bt b t r.2.1 = 42 then (if (numC b t 1 20 (r.2.1 + 1) (-1)).2.2 = -1 then br3 m p r (numC b t 1 20 (r.2.1 + 1) (-1)).1 (numC b t 1 20 (r.2.1 + 1) (-1)).2.1 else ((numC b t 1 20 (r.2.1 + 1) (-1)).2.2, 0, 0, r.2.2.2)) else (r.2.1, 0, 0, r.2.2.2)
def its (b : Int → Int) (t m p : Int) (D : Int → Int) : Qd := itr b t 1602 (itq b t m (p + 1) D)
def brk (b : Int → Int) (t m p : Int) (D : Int → Int) : Qd := if (its b t m p D).1 = -1 then br2 b t m p (its b t m p D) else its b t m p D
section BK
variable {E : AEn} {h h' : AHi} {hr : AHr} {n : Nat} {Q : ARs → Prop} {l t p f m k w : Int} {b D : Int → Int} {r : Qd}
theorem itr_b (ht : 0 ≤ t ∧ t ≤ 1600) (hb : ∀ i, 0 ≤ b i ∧ b i ≤ 255) : ∀ (q : Nat) (r : Qd) (m p : Int), 0 < q → (r.1 = -1 → t - r.2.1 < q) → 0 ≤ p → Qk t m p r → Qk t m p (itr b t q r) := by
  intro q
  induction q with
  | zero => intro r m p h0; omega
  | succ q ih =>
    intro r m p _ h1 p0 K
    unfold itr
    by_cases g : r.1 = -1
    · obtain ⟨⟨u1, u2⟩, ⟨u3, u4⟩, u5⟩ := K.2 g
      have := h1 g
      rw [if_pos g]
      by_cases g1 : bt b t r.2.1 = 32
      · have hin := bt_in (b := b) (t := t) (i := r.2.1) (by omega)
        rw [if_pos g1]
        have K2 := itq_b (m := r.2.2.1) (p := r.2.1 + 1) ht hb (by omega) u5
        refine ih _ m p (by omega) (fun z => ?_) p0 ⟨K2.1, fun z => ?_⟩
        · have := (K2.2 z).1
          omega
        · obtain ⟨w1, w2, w3⟩ := K2.2 z
          exact ⟨by omega, by omega, w3⟩
      · rw [if_neg g1]
        by_cases g2 : bt b t r.2.1 = 41
        · have hin := bt_in (b := b) (t := t) (i := r.2.1) (by omega)
          rw [if_pos g2]
          refine ⟨Or.inl rfl, fun _ => ⟨⟨?_, ?_⟩, ⟨u3, u4⟩, u5⟩⟩
          · show p < r.2.1 + 1
            omega
          · show r.2.1 + 1 ≤ t
            omega
        · rw [if_neg g2]
          exact Qk_f (by omega) (by omega)
    · rw [if_neg g]
      exact K
theorem its_b (ht : 0 ≤ t ∧ t ≤ 1600) (hb : ∀ i, 0 ≤ b i ∧ b i ≤ 255) (hp : 0 ≤ p ∧ p ≤ 1650) (hD : Rg D) : Qk t m (p + 1) (its b t m p D) := by
  have K := itq_b (m := m) (p := p + 1) ht hb (by omega) hD
  refine itr_b ht hb 1602 _ m (p + 1) (by decide) (fun z => ?_) (by omega) K
  have := (K.2 z).1
  omega
theorem brk_b (ht : 0 ≤ t ∧ t ≤ 1600) (hb : ∀ i, 0 ≤ b i ∧ b i ≤ 255) (hp : 0 ≤ p ∧ p ≤ 1650) (hm : 0 ≤ m) (hD : Rg D) : Qk t m p (brk b t m p D) := by
  have K := its_b (m := m) (p := p) ht hb hp hD
  unfold brk
  by_cases g : (its b t m p D).1 = -1
  · rw [if_pos g]
    obtain ⟨⟨u1, u2⟩, ⟨u3, u4⟩, u5⟩ := K.2 g
    generalize its b t m p D = r at *
    unfold br2
    by_cases g1 : bt b t r.2.1 = 42
    · rw [if_pos g1]
      have nb := num_b (t := t) (f := -1) hb ht 1 20 (p := r.2.1 + 1) (by omega) (Or.inl rfl)
      have nr := num_rel (b := b) (t := t) hb (lo := 1) (hi := 20) (p := r.2.1 + 1) (by omega)
      by_cases g2 : (numC b t 1 20 (r.2.1 + 1) (-1)).2.2 = -1
      · rw [if_pos g2]
        obtain ⟨_, q1, q2, q3⟩ := nr.2 g2
        unfold br3
        by_cases g3 : m + (r.2.2.1 - m) * (numC b t 1 20 (r.2.1 + 1) (-1)).1 ≤ 120
        · rw [if_pos g3]
          refine ⟨Or.inl rfl, fun _ => ⟨⟨?_, q3⟩, ⟨?_, g3⟩, fun j => ?_⟩⟩
          · show p < (numC b t 1 20 (r.2.1 + 1) (-1)).2.1
            omega
          · show m < m + (r.2.2.1 - m) * (numC b t 1 20 (r.2.1 + 1) (-1)).1
            have := Int.mul_pos (show 0 < r.2.2.1 - m by omega) (show 0 < (numC b t 1 20 (r.2.1 + 1) (-1)).1 by omega)
            omega
          · show -1 ≤ rpD r m j ∧ rpD r m j ≤ 15
            unfold rpD
            split
            · exact u5 _
            · exact u5 _
        · rw [if_neg g3]
          exact Qk_f (by omega) (by omega)
      · rw [if_neg g2]
        exact Qk_f g2 nb.2.1
    · rw [if_neg g1]
      exact Qk_f (by omega) (by omega)
  · rw [if_neg g]
    exact ⟨K.1, fun z => absurd z g⟩
theorem rpD_s {r : Qd} {m j : Int} (h : m < r.2.2.1) (hj : r.2.2.1 ≤ j) : rpD r m (j - (r.2.2.1 - m)) = rpD r m j ∧ rpD r m (m + (j - m) % (r.2.2.1 - m)) = rpD r m j := by
  have d0 := Int.emod_nonneg (j - m) (show r.2.2.1 - m ≠ 0 by omega)
  have d1 := Int.emod_lt_of_pos (j - m) (show 0 < r.2.2.1 - m by omega)
  have e1 : rpD r m j = r.2.2.2 (m + (j - m) % (r.2.2.1 - m)) := if_neg (by omega)
  rw [e1]
  refine ⟨?_, if_pos (by omega)⟩
  have e2 : (j - (r.2.2.1 - m) - m) % (r.2.2.1 - m) = (j - m) % (r.2.2.1 - m) := by
    rw [show j - (r.2.2.1 - m) - m = (j - m) - (r.2.2.1 - m) by omega]
    exact Int.sub_emod_right _ _
  unfold rpD
  by_cases g : j - (r.2.2.1 - m) < r.2.2.1
  · rw [if_pos g]
    rw [Int.emod_eq_of_lt (by omega) (by omega)] at e2
    rw [← e2, show m + (j - (r.2.2.1 - m) - m) = j - (r.2.2.1 - m) by omega]
  · rw [if_neg g, e2]
theorem z59 (F : FH hr) (hn : 775 ≤ n) (l0 : 0 ≤ l) (l1 : l < 4) {v2 v3 : Int32} {v6 v7 : Value} : ∀ (q : Nat) (i p m : Int) (D : Int → Int) (h : AHi), t - p < q → 0 ≤ i → 2 * i ≤ p → 0 ≤ p → p ≤ t → (0 ≤ m ∧ m ≤ 120) → Rg D → TpC h t b → Rz h (623 + 3 * l.toNat) 3 (625 + 3 * l.toNat) m D →
    (∀ h' p' f' (v4 v5 : Int32), 0 ≤ p' → p' ≤ 1700 → Ef (Sdw l.toNat) h h' → (∃ m', (0 ≤ m' ∧ m' ≤ 120) ∧ h' (623 + 3 * l.toNat) 3 = J m') → (itr b t q (itq b t m p D)).1 ≠ -1 → (f' = (itr b t q (itq b t m p D)).1 ∨ f' = -1 ∧ p' = (itr b t q (itq b t m p D)).1 ∧ bt b t p' ≠ 41) → Tm E 59 (a_bl 59 4) [.ref (623 + 3 * l.toNat), .ref 44, .int v2, .int v3, .int v4, .int v5, v6, v7] [] (RS h' p' f') hr n Q) →
    (∀ h' p' (v4 v5 : Int32), 0 ≤ p' → p' ≤ t → Ef (Sdw l.toNat) h h' → (itr b t q (itq b t m p D)).1 = -1 → (itr b t q (itq b t m p D)).2.1 = p' + 1 → bt b t p' = 41 → Rz h' (623 + 3 * l.toNat) 3 (625 + 3 * l.toNat) (itr b t q (itq b t m p D)).2.2.1 (itr b t q (itq b t m p D)).2.2.2 → Tm E 59 (a_bl 59 4) [.ref (623 + 3 * l.toNat), .ref 44, .int v2, .int v3, .int v4, .int v5, v6, v7] [] (RS h' p' (-1)) hr n Q) →
    Tm E 59 (a_bl 59 1) [.ref (623 + 3 * l.toNat), .ref 44, .int v2, .int v3, .int (J 1), .int (J i), v6, v7] [] (RS h p (-1)) hr n Q := by
  intro q
  induction q with
  | zero => intro i p m D h q0 i0 i1 p0 p1; omega
  | succ q ih =>
    intro i p m D h q0 i0 i1 p0 p1 hm hD T R kf kg
    have t1 := T.1
    have K := itq_b (m := m) (p := p) T.1 T.2.1 (by omega) hD
    have x1 := X90 E F l0 l1
    rw [k59_1]
    simp +decide (maxSteps := 4000000) (disch := omega) only [k59_0, k59_5, k59_7, k59_r, k59_s, F_al1, T_getI, F_is2i, F_is2r, F_is2m, F_al0, F_is3i, F_is3r, F_is3m, T_I, F_is4i, F_is4r, F_is4m, F_is5i, F_is5r, F_is5m, T_ft, F_il4, J_ifeq, F_il5, T_icge, T_iceq, T_goto, F_inc5i, F_inc5r, F_inc5m, F_il3, T_sub, F_is6i, F_is6r, F_is6m, F_il6, T_mul, T_add, T_icle, F_il2, F_is7i, F_is7r, F_is7m, F_il7, T_getR, X_iald, T_iast, T_dupI, T_dupR, T_putI, T_putZ, F_inc7i, F_inc7r, F_inc7m, T_ret, c14, c16, c18, c19, c20, c22, c60, ↓s14, ↓s16, ↓s18, ↓s19, ↓s20, ↓s22, x1, show ¬ 1600 ≤ i by omega, kd_44, ↓reduceIte, TK, lt_run hn, le43, Int.le_refl, Int.lt_irrefl, Option.some.injEq, exists_eq_left', true_and, and_true, if_true, if_false, decide_eq_false_iff_not, decide_eq_true_eq, Nat.reduceAdd, Nat.reduceLeDiff, Nat.reduceLT, Int.reduceAdd, Int.reduceSub, Int.reduceMul, Int.reduceNeg, not_true_eq_false, not_false_eq_true]
    refine w60 (p := p) F hn l0 l1 T R hm (by omega) (fun h1 w w0 w1 e1 mm gd => ?_)
    have T1 : TpC h1 t b := T.ef e1 (fun q => by unfold Sdw at q; omega) (fun k q => by unfold Sdw at q; omega)
    unfold itr at kf kg
    generalize itq b t m p D = r at *
    by_cases g : r.1 = -1
    · obtain ⟨ep, R1⟩ := gd g
      obtain ⟨⟨u1, u2⟩, ⟨u3, u4⟩, u5⟩ := K.2 g
      rw [if_pos g, ← ep] at kf kg
      rw [← ep] at u1 u2
      rw [g]
      have hbt := bt_r (t := t) T.2.1 w
      by_cases g1 : bt b t w = 32
      · have hin := bt_in (b := b) (t := t) (i := w) (by omega)
        rw [if_pos g1] at kf kg
        simp +decide (maxSteps := 4000000) (disch := omega) only [k59_0, k59_2, k59_3, k59_4, k59_5, k59_7, k59_r, k59_s, F_al1, T_getI, F_is2i, F_is2r, F_is2m, F_al0, F_is3i, F_is3r, F_is3m, T_I, F_is4i, F_is4r, F_is4m, F_is5i, F_is5r, F_is5m, T_ft, F_il4, J_ifeq, F_il5, T_icge, T_iceq, T_goto, F_inc5i, F_inc5r, F_inc5m, F_il3, T_sub, F_is6i, F_is6r, F_is6m, F_il6, T_mul, T_add, T_icle, F_il2, F_is7i, F_is7r, F_is7m, F_il7, T_getR, X_iald, T_iast, T_dupI, T_dupR, T_putI, T_putZ, F_inc7i, F_inc7r, F_inc7m, T_ret, c14, c16, c18, c19, c20, c22, c60, ↓s14, ↓s16, ↓s18, ↓s22, ↓s19 F hn T1, ↓s20 F hn T1, g1, hin, kd_44, ↓reduceIte, TK, lt_run hn, le43, Int.le_refl, Int.lt_irrefl, Option.some.injEq, exists_eq_left', true_and, and_true, if_true, if_false, decide_eq_false_iff_not, decide_eq_true_eq, Nat.reduceAdd, Nat.reduceLeDiff, Nat.reduceLT, Int.reduceAdd, Int.reduceSub, Int.reduceMul, Int.reduceNeg, not_true_eq_false, not_false_eq_true]
        exact ih (i + 1) (w + 1) _ _ h1 (by omega) (by omega) (by omega) (by omega) (by omega) (by omega) u5 T1 R1 (fun h' p' f' v4 v5 a1 a2 a3 => kf h' p' f' v4 v5 a1 a2 (e1.trans a3)) (fun h' p' v4 v5 a1 a2 a3 => kg h' p' v4 v5 a1 a2 (e1.trans a3))
      · rw [if_neg g1] at kf kg
        by_cases g2 : bt b t w = 41
        · rw [if_pos g2] at kg
          have fin := kg h1 w (J 0) (J (i + 1)) w0 u2 e1 rfl rfl g2 R1
          simp +decide (maxSteps := 4000000) (disch := omega) only [k59_0, k59_2, k59_3, k59_4, k59_5, k59_7, k59_r, k59_s, F_al1, T_getI, F_is2i, F_is2r, F_is2m, F_al0, F_is3i, F_is3r, F_is3m, T_I, F_is4i, F_is4r, F_is4m, F_is5i, F_is5r, F_is5m, T_ft, F_il4, J_ifeq, F_il5, T_icge, T_iceq, T_goto, F_inc5i, F_inc5r, F_inc5m, F_il3, T_sub, F_is6i, F_is6r, F_is6m, F_il6, T_mul, T_add, T_icle, F_il2, F_is7i, F_is7r, F_is7m, F_il7, T_getR, X_iald, T_iast, T_dupI, T_dupR, T_putI, T_putZ, F_inc7i, F_inc7r, F_inc7m, T_ret, c14, c16, c18, c19, c20, c22, c60, ↓s14, ↓s16, ↓s18, ↓s20, ↓s22, ↓s19 F hn T1, g2, kd_44, ↓reduceIte, TK, lt_run hn, le43, Int.le_refl, Int.lt_irrefl, Option.some.injEq, exists_eq_left', true_and, and_true, if_true, if_false, decide_eq_false_iff_not, decide_eq_true_eq, Nat.reduceAdd, Nat.reduceLeDiff, Nat.reduceLT, Int.reduceAdd, Int.reduceSub, Int.reduceMul, Int.reduceNeg, not_true_eq_false, not_false_eq_true]
          rw [k59_1]
          simp +decide (maxSteps := 4000000) (disch := omega) only [k59_0, k59_2, k59_3, k59_5, k59_7, k59_r, k59_s, F_al1, T_getI, F_is2i, F_is2r, F_is2m, F_al0, F_is3i, F_is3r, F_is3m, T_I, F_is4i, F_is4r, F_is4m, F_is5i, F_is5r, F_is5m, T_ft, F_il4, J_ifeq, F_il5, T_icge, T_iceq, T_goto, F_inc5i, F_inc5r, F_inc5m, F_il3, T_sub, F_is6i, F_is6r, F_is6m, F_il6, T_mul, T_add, T_icle, F_il2, F_is7i, F_is7r, F_is7m, F_il7, T_getR, X_iald, T_iast, T_dupI, T_dupR, T_putI, T_putZ, F_inc7i, F_inc7r, F_inc7m, T_ret, c14, c16, c18, c19, c20, c22, c60, ↓s14, ↓s16, ↓s18, ↓s19, ↓s20, ↓s22, ↓reduceIte, TK, lt_run hn, le43, Int.le_refl, Int.lt_irrefl, Option.some.injEq, exists_eq_left', true_and, and_true, if_true, if_false, decide_eq_false_iff_not, decide_eq_true_eq, Nat.reduceAdd, Nat.reduceLeDiff, Nat.reduceLT, Int.reduceAdd, Int.reduceSub, Int.reduceMul, Int.reduceNeg, not_true_eq_false, not_false_eq_true]
          exact fin
        · rw [if_neg g2] at kf
          by_cases g3 : w < t
          · have fin := kf h1 w w (J 0) (J (i + 1)) w0 w1 e1 mm (by dsimp only; omega) (Or.inl rfl)
            simp +decide (maxSteps := 4000000) (disch := omega) only [k59_0, k59_2, k59_3, k59_4, k59_5, k59_7, k59_r, k59_s, F_al1, T_getI, F_is2i, F_is2r, F_is2m, F_al0, F_is3i, F_is3r, F_is3m, T_I, F_is4i, F_is4r, F_is4m, F_is5i, F_is5r, F_is5m, T_ft, F_il4, J_ifeq, F_il5, T_icge, T_iceq, T_goto, F_inc5i, F_inc5r, F_inc5m, F_il3, T_sub, F_is6i, F_is6r, F_is6m, F_il6, T_mul, T_add, T_icle, F_il2, F_is7i, F_is7r, F_is7m, F_il7, T_getR, X_iald, T_iast, T_dupI, T_dupR, T_putI, T_putZ, F_inc7i, F_inc7r, F_inc7m, T_ret, c14, c16, c18, c19, c20, c22, c60, ↓s14, ↓s16, ↓s18, ↓s22, ↓s19 F hn T1, ↓s20 F hn T1, g1, g2, g3, kd_44, ↓reduceIte, TK, lt_run hn, le43, Int.le_refl, Int.lt_irrefl, Option.some.injEq, exists_eq_left', true_and, and_true, if_true, if_false, decide_eq_false_iff_not, decide_eq_true_eq, Nat.reduceAdd, Nat.reduceLeDiff, Nat.reduceLT, Int.reduceAdd, Int.reduceSub, Int.reduceMul, Int.reduceNeg, not_true_eq_false, not_false_eq_true]
            rw [k59_1]
            simp +decide (maxSteps := 4000000) (disch := omega) only [k59_0, k59_2, k59_3, k59_5, k59_7, k59_r, k59_s, F_al1, T_getI, F_is2i, F_is2r, F_is2m, F_al0, F_is3i, F_is3r, F_is3m, T_I, F_is4i, F_is4r, F_is4m, F_is5i, F_is5r, F_is5m, T_ft, F_il4, J_ifeq, F_il5, T_icge, T_iceq, T_goto, F_inc5i, F_inc5r, F_inc5m, F_il3, T_sub, F_is6i, F_is6r, F_is6m, F_il6, T_mul, T_add, T_icle, F_il2, F_is7i, F_is7r, F_is7m, F_il7, T_getR, X_iald, T_iast, T_dupI, T_dupR, T_putI, T_putZ, F_inc7i, F_inc7r, F_inc7m, T_ret, c14, c16, c18, c19, c20, c22, c60, ↓s14, ↓s16, ↓s18, ↓s19, ↓s20, ↓s22, ↓reduceIte, TK, lt_run hn, le43, Int.le_refl, Int.lt_irrefl, Option.some.injEq, exists_eq_left', true_and, and_true, if_true, if_false, decide_eq_false_iff_not, decide_eq_true_eq, Nat.reduceAdd, Nat.reduceLeDiff, Nat.reduceLT, Int.reduceAdd, Int.reduceSub, Int.reduceMul, Int.reduceNeg, not_true_eq_false, not_false_eq_true]
            exact fin
          · have fin := kf h1 w (-1) (J 0) (J (i + 1)) w0 w1 e1 mm (by dsimp only; omega) (Or.inr ⟨rfl, rfl, g2⟩)
            simp +decide (maxSteps := 4000000) (disch := omega) only [k59_0, k59_2, k59_3, k59_4, k59_5, k59_7, k59_r, k59_s, F_al1, T_getI, F_is2i, F_is2r, F_is2m, F_al0, F_is3i, F_is3r, F_is3m, T_I, F_is4i, F_is4r, F_is4m, F_is5i, F_is5r, F_is5m, T_ft, F_il4, J_ifeq, F_il5, T_icge, T_iceq, T_goto, F_inc5i, F_inc5r, F_inc5m, F_il3, T_sub, F_is6i, F_is6r, F_is6m, F_il6, T_mul, T_add, T_icle, F_il2, F_is7i, F_is7r, F_is7m, F_il7, T_getR, X_iald, T_iast, T_dupI, T_dupR, T_putI, T_putZ, F_inc7i, F_inc7r, F_inc7m, T_ret, c14, c16, c18, c19, c20, c22, c60, ↓s14, ↓s16, ↓s18, ↓s22, ↓s19 F hn T1, ↓s20 F hn T1, g1, g2, g3, kd_44, ↓reduceIte, TK, lt_run hn, le43, Int.le_refl, Int.lt_irrefl, Option.some.injEq, exists_eq_left', true_and, and_true, if_true, if_false, decide_eq_false_iff_not, decide_eq_true_eq, Nat.reduceAdd, Nat.reduceLeDiff, Nat.reduceLT, Int.reduceAdd, Int.reduceSub, Int.reduceMul, Int.reduceNeg, not_true_eq_false, not_false_eq_true]
            rw [k59_1]
            simp +decide (maxSteps := 4000000) (disch := omega) only [k59_0, k59_2, k59_3, k59_5, k59_7, k59_r, k59_s, F_al1, T_getI, F_is2i, F_is2r, F_is2m, F_al0, F_is3i, F_is3r, F_is3m, T_I, F_is4i, F_is4r, F_is4m, F_is5i, F_is5r, F_is5m, T_ft, F_il4, J_ifeq, F_il5, T_icge, T_iceq, T_goto, F_inc5i, F_inc5r, F_inc5m, F_il3, T_sub, F_is6i, F_is6r, F_is6m, F_il6, T_mul, T_add, T_icle, F_il2, F_is7i, F_is7r, F_is7m, F_il7, T_getR, X_iald, T_iast, T_dupI, T_dupR, T_putI, T_putZ, F_inc7i, F_inc7r, F_inc7m, T_ret, c14, c16, c18, c19, c20, c22, c60, ↓s14, ↓s16, ↓s18, ↓s19, ↓s20, ↓s22, ↓reduceIte, TK, lt_run hn, le43, Int.le_refl, Int.lt_irrefl, Option.some.injEq, exists_eq_left', true_and, and_true, if_true, if_false, decide_eq_false_iff_not, decide_eq_true_eq, Nat.reduceAdd, Nat.reduceLeDiff, Nat.reduceLT, Int.reduceAdd, Int.reduceSub, Int.reduceMul, Int.reduceNeg, not_true_eq_false, not_false_eq_true]
            exact fin
    · rw [if_neg g] at kf
      have hbt := bt_r (t := t) T.2.1 w
      have fb := K.1
      have fin := kf h1 w r.1 (J 0) (J (i + 1)) w0 w1 e1 mm g (Or.inl rfl)
      by_cases g2 : bt b t w = 41
      · simp +decide (maxSteps := 4000000) (disch := omega) only [k59_0, k59_2, k59_3, k59_4, k59_5, k59_7, k59_r, k59_s, F_al1, T_getI, F_is2i, F_is2r, F_is2m, F_al0, F_is3i, F_is3r, F_is3m, T_I, F_is4i, F_is4r, F_is4m, F_is5i, F_is5r, F_is5m, T_ft, F_il4, J_ifeq, F_il5, T_icge, T_iceq, T_goto, F_inc5i, F_inc5r, F_inc5m, F_il3, T_sub, F_is6i, F_is6r, F_is6m, F_il6, T_mul, T_add, T_icle, F_il2, F_is7i, F_is7r, F_is7m, F_il7, T_getR, X_iald, T_iast, T_dupI, T_dupR, T_putI, T_putZ, F_inc7i, F_inc7r, F_inc7m, T_ret, c14, c16, c18, c19, c20, c22, c60, ↓s14, ↓s16, ↓s18, ↓s20, ↓s22, ↓s19 F hn T1, g2, kd_44, ↓reduceIte, TK, lt_run hn, le43, Int.le_refl, Int.lt_irrefl, Option.some.injEq, exists_eq_left', true_and, and_true, if_true, if_false, decide_eq_false_iff_not, decide_eq_true_eq, Nat.reduceAdd, Nat.reduceLeDiff, Nat.reduceLT, Int.reduceAdd, Int.reduceSub, Int.reduceMul, Int.reduceNeg, not_true_eq_false, not_false_eq_true]
        rw [k59_1]
        simp +decide (maxSteps := 4000000) (disch := omega) only [k59_0, k59_2, k59_3, k59_5, k59_7, k59_r, k59_s, F_al1, T_getI, F_is2i, F_is2r, F_is2m, F_al0, F_is3i, F_is3r, F_is3m, T_I, F_is4i, F_is4r, F_is4m, F_is5i, F_is5r, F_is5m, T_ft, F_il4, J_ifeq, F_il5, T_icge, T_iceq, T_goto, F_inc5i, F_inc5r, F_inc5m, F_il3, T_sub, F_is6i, F_is6r, F_is6m, F_il6, T_mul, T_add, T_icle, F_il2, F_is7i, F_is7r, F_is7m, F_il7, T_getR, X_iald, T_iast, T_dupI, T_dupR, T_putI, T_putZ, F_inc7i, F_inc7r, F_inc7m, T_ret, c14, c16, c18, c19, c20, c22, c60, ↓s14, ↓s16, ↓s18, ↓s19, ↓s20, ↓s22, ↓reduceIte, TK, lt_run hn, le43, Int.le_refl, Int.lt_irrefl, Option.some.injEq, exists_eq_left', true_and, and_true, if_true, if_false, decide_eq_false_iff_not, decide_eq_true_eq, Nat.reduceAdd, Nat.reduceLeDiff, Nat.reduceLT, Int.reduceAdd, Int.reduceSub, Int.reduceMul, Int.reduceNeg, not_true_eq_false, not_false_eq_true]
        exact fin
      · simp +decide (maxSteps := 4000000) (disch := omega) only [k59_0, k59_2, k59_3, k59_4, k59_5, k59_7, k59_r, k59_s, F_al1, T_getI, F_is2i, F_is2r, F_is2m, F_al0, F_is3i, F_is3r, F_is3m, T_I, F_is4i, F_is4r, F_is4m, F_is5i, F_is5r, F_is5m, T_ft, F_il4, J_ifeq, F_il5, T_icge, T_iceq, T_goto, F_inc5i, F_inc5r, F_inc5m, F_il3, T_sub, F_is6i, F_is6r, F_is6m, F_il6, T_mul, T_add, T_icle, F_il2, F_is7i, F_is7r, F_is7m, F_il7, T_getR, X_iald, T_iast, T_dupI, T_dupR, T_putI, T_putZ, F_inc7i, F_inc7r, F_inc7m, T_ret, c14, c16, c18, c19, c20, c22, c60, ↓s14, ↓s16, ↓s18, ↓s22, ↓s19 F hn T1, ↓s20 F hn T1, g, g2, kd_44, ↓reduceIte, TK, lt_run hn, le43, Int.le_refl, Int.lt_irrefl, Option.some.injEq, exists_eq_left', true_and, and_true, if_true, if_false, decide_eq_false_iff_not, decide_eq_true_eq, Nat.reduceAdd, Nat.reduceLeDiff, Nat.reduceLT, Int.reduceAdd, Int.reduceSub, Int.reduceMul, Int.reduceNeg, not_true_eq_false, not_false_eq_true]
        rw [k59_1]
        simp +decide (maxSteps := 4000000) (disch := omega) only [k59_0, k59_2, k59_3, k59_5, k59_7, k59_r, k59_s, F_al1, T_getI, F_is2i, F_is2r, F_is2m, F_al0, F_is3i, F_is3r, F_is3m, T_I, F_is4i, F_is4r, F_is4m, F_is5i, F_is5r, F_is5m, T_ft, F_il4, J_ifeq, F_il5, T_icge, T_iceq, T_goto, F_inc5i, F_inc5r, F_inc5m, F_il3, T_sub, F_is6i, F_is6r, F_is6m, F_il6, T_mul, T_add, T_icle, F_il2, F_is7i, F_is7r, F_is7m, F_il7, T_getR, X_iald, T_iast, T_dupI, T_dupR, T_putI, T_putZ, F_inc7i, F_inc7r, F_inc7m, T_ret, c14, c16, c18, c19, c20, c22, c60, ↓s14, ↓s16, ↓s18, ↓s19, ↓s20, ↓s22, ↓reduceIte, TK, lt_run hn, le43, Int.le_refl, Int.lt_irrefl, Option.some.injEq, exists_eq_left', true_and, and_true, if_true, if_false, decide_eq_false_iff_not, decide_eq_true_eq, Nat.reduceAdd, Nat.reduceLeDiff, Nat.reduceLT, Int.reduceAdd, Int.reduceSub, Int.reduceMul, Int.reduceNeg, not_true_eq_false, not_false_eq_true]
        exact fin
theorem e59l (F : FH hr) (hn : 775 ≤ n) (hf : 0 ≤ f ∧ f ≤ 1700) {v2 v3 v4 x y z : Int32} (kk : Q (none, RS h w f, hr, n)) : Tm E 59 (a_bl 59 6) [.ref (623 + 3 * l.toNat), .ref 44, .int v2, .int v3, .int v4, .int x, .int y, .int z] [] (RS h w f) hr n Q := by
  have f1 : f ≠ -1 := by omega
  rw [k59_6]
  simp +decide (maxSteps := 4000000) (disch := omega) only [k59_0, k59_2, k59_3, k59_4, k59_5, k59_7, k59_r, k59_s, F_al1, T_getI, F_is2i, F_is2r, F_is2m, F_al0, F_is3i, F_is3r, F_is3m, T_I, F_is4i, F_is4r, F_is4m, F_is5i, F_is5r, F_is5m, T_ft, F_il4, J_ifeq, F_il5, T_icge, T_iceq, T_goto, F_inc5i, F_inc5r, F_inc5m, F_il3, T_sub, F_is6i, F_is6r, F_is6m, F_il6, T_mul, T_add, T_icle, F_il2, F_is7i, F_is7r, F_is7m, F_il7, T_getR, X_iald, T_iast, T_dupI, T_dupR, T_putI, T_putZ, F_inc7i, F_inc7r, F_inc7m, T_ret, c14, c16, c18, c19, c20, c22, c60, ↓s14, ↓s18, ↓s19, ↓s20, ↓s22, ↓s16 F hn, f1, kd_44, ↓reduceIte, TK, lt_run hn, le43, Int.le_refl, Int.lt_irrefl, Option.some.injEq, exists_eq_left', true_and, and_true, if_true, if_false, decide_eq_false_iff_not, decide_eq_true_eq, Nat.reduceAdd, Nat.reduceLeDiff, Nat.reduceLT, Int.reduceAdd, Int.reduceSub, Int.reduceMul, Int.reduceNeg, not_true_eq_false, not_false_eq_true]
  first | exact kk | (split <;> exact kk)
theorem num_F {lo hi : Int} (e : f ≠ -1) (hl : 1 ≤ lo) : numC b t lo hi p f = (0, p, f) := by
  unfold numC
  rw [dgs_f e]
  dsimp only
  rw [if_pos rfl, rf_n e, rf_n e, if_pos (Or.inl (by omega))]
/-- the class behind the items: a fault -/
theorem e59f (F : FH hr) (hn : 775 ≤ n) (l0 : 0 ≤ l) (l1 : l < 4) (T : TpC h t b) {v4 v5 : Int32} {m1 u : Int} (c : h (623 + 3 * l.toNat) 3 = J m1) (hm : 0 ≤ m1 ∧ m1 ≤ 120) (hm0 : 0 ≤ m ∧ m ≤ 120) (hw : 0 ≤ w ∧ w ≤ 1700) (hf : 0 ≤ f ∧ f ≤ 1700) (hu : u = f ∨ u = -1 ∧ w = f ∧ bt b t w ≠ 41) (kk : Q (none, RS h w f, hr, n)) : Tm E 59 (a_bl 59 4) [.ref (623 + 3 * l.toNat), .ref 44, .int (J p), .int (J m), .int v4, .int v5, a_mk, a_mk] [] (RS h w u) hr n Q := by
  have x1 := X90 E F l0 l1
  have f1 : f ≠ -1 := by omega
  have z1 : ∀ p f, RS h p f (623 + 3 * l.toNat) 3 = J m1 := fun p f => by rw [RS_o (by omega)]; exact c
  have nf : numC b t 1 20 w f = (0, w, f) := num_F f1 (by decide)
  rw [k59_4]
  rcases hu with rfl | ⟨rfl, rfl, hu⟩
  · simp +decide (maxSteps := 4000000) (disch := omega) only [k59_0, k59_2, k59_3, k59_4, k59_5, k59_7, k59_r, k59_s, F_al1, T_getI, F_is2i, F_is2r, F_is2m, F_al0, F_is3i, F_is3r, F_is3m, T_I, F_is4i, F_is4r, F_is4m, F_is5i, F_is5r, F_is5m, T_ft, F_il4, J_ifeq, F_il5, T_icge, T_iceq, T_goto, F_inc5i, F_inc5r, F_inc5m, F_il3, T_sub, F_is6i, F_is6r, F_is6m, F_il6, T_mul, T_add, T_icle, F_il2, F_is7i, F_is7r, F_is7m, F_il7, T_getR, X_iald, T_iast, T_dupI, T_dupR, T_putI, T_putZ, F_inc7i, F_inc7r, F_inc7m, T_ret, c14, c16, c18, c19, c20, c22, c60, ↓s16, ↓s19, ↓s20, x1, z1, ↓s22 F hn T, ↓s14 F hn T, ↓s18 F hn, f1, rf_n f1, nf, kd_44, false_and, ↓reduceIte, TK, lt_run hn, le43, Int.le_refl, Int.lt_irrefl, Option.some.injEq, exists_eq_left', true_and, and_true, if_true, if_false, decide_eq_false_iff_not, decide_eq_true_eq, Nat.reduceAdd, Nat.reduceLeDiff, Nat.reduceLT, Int.reduceAdd, Int.reduceSub, Int.reduceMul, Int.reduceNeg, not_true_eq_false, not_false_eq_true]
    first | exact e59l F hn hf kk | (split <;> exact e59l F hn hf kk)
  · simp +decide (maxSteps := 4000000) (disch := omega) only [k59_0, k59_2, k59_3, k59_4, k59_5, k59_7, k59_r, k59_s, F_al1, T_getI, F_is2i, F_is2r, F_is2m, F_al0, F_is3i, F_is3r, F_is3m, T_I, F_is4i, F_is4r, F_is4m, F_is5i, F_is5r, F_is5m, T_ft, F_il4, J_ifeq, F_il5, T_icge, T_iceq, T_goto, F_inc5i, F_inc5r, F_inc5m, F_il3, T_sub, F_is6i, F_is6r, F_is6m, F_il6, T_mul, T_add, T_icle, F_il2, F_is7i, F_is7r, F_is7m, F_il7, T_getR, X_iald, T_iast, T_dupI, T_dupR, T_putI, T_putZ, F_inc7i, F_inc7r, F_inc7m, T_ret, c14, c16, c18, c19, c20, c22, c60, ↓s16, ↓s19, ↓s20, x1, z1, ↓s22 F hn T, ↓s14 F hn T, ↓s18 F hn, f1, hu, rf_n f1, rf_y, nf, kd_44, false_and, ↓reduceIte, TK, lt_run hn, le43, Int.le_refl, Int.lt_irrefl, Option.some.injEq, exists_eq_left', true_and, and_true, if_true, if_false, decide_eq_false_iff_not, decide_eq_true_eq, Nat.reduceAdd, Nat.reduceLeDiff, Nat.reduceLT, Int.reduceAdd, Int.reduceSub, Int.reduceMul, Int.reduceNeg, not_true_eq_false, not_false_eq_true]
    first | exact e59l F hn hf kk | (split <;> exact e59l F hn hf kk)
theorem e59 (F : FH hr) (hn : 775 ≤ n) (l0 : 0 ≤ l) (l1 : l < 4) (T : TpC h t b) {v4 v5 : Int32} (R : Rz h (623 + 3 * l.toNat) 3 (625 + 3 * l.toNat) r.2.2.1 r.2.2.2) (hm : 0 ≤ m ∧ m < r.2.2.1 ∧ r.2.2.1 ≤ 120) (hp : 0 ≤ p ∧ p ≤ 1650) (hw : 0 ≤ w ∧ w ≤ t) (g41 : bt b t w = 41) (er : r.2.1 = w + 1) (kk : Ic l hr n Q h (br2 b t m p r)) : Tm E 59 (a_bl 59 4) [.ref (623 + 3 * l.toNat), .ref 44, .int (J p), .int (J m), .int v4, .int v5, a_mk, a_mk] [] (RS h w (-1)) hr n Q := by
  have x1 := X90 E F l0 l1
  have t1 := T.1
  have z1 : ∀ p f, RS h p f (623 + 3 * l.toNat) 3 = J r.2.2.1 := fun p f => by rw [RS_o (by omega)]; exact R.1
  have hin := bt_in (b := b) (t := t) (i := w) (by omega)
  have mm : ∃ m', (0 ≤ m' ∧ m' ≤ 120) ∧ h (623 + 3 * l.toNat) 3 = J m' := ⟨_, by omega, R.1⟩
  unfold br2 at kk
  rw [er] at kk
  rw [k59_4]
  by_cases g : bt b t (w + 1) = 42
  case neg =>
    rw [if_neg g] at kk
    have f1 : w + 1 ≠ -1 := by omega
    have nf : numC b t 1 20 (w + 1) (w + 1) = (0, w + 1, w + 1) := num_F f1 (by decide)
    have k1 := kk h (w + 1) (by omega) (by omega) Ef.refl mm (fun z => absurd z f1)
    simp +decide (maxSteps := 4000000) (disch := omega) only [k59_0, k59_2, k59_3, k59_4, k59_5, k59_7, k59_r, k59_s, F_al1, T_getI, F_is2i, F_is2r, F_is2m, F_al0, F_is3i, F_is3r, F_is3m, T_I, F_is4i, F_is4r, F_is4m, F_is5i, F_is5r, F_is5m, T_ft, F_il4, J_ifeq, F_il5, T_icge, T_iceq, T_goto, F_inc5i, F_inc5r, F_inc5m, F_il3, T_sub, F_is6i, F_is6r, F_is6m, F_il6, T_mul, T_add, T_icle, F_il2, F_is7i, F_is7r, F_is7m, F_il7, T_getR, X_iald, T_iast, T_dupI, T_dupR, T_putI, T_putZ, F_inc7i, F_inc7r, F_inc7m, T_ret, c14, c16, c18, c19, c20, c22, c60, ↓s16, ↓s19, ↓s20, x1, z1, ↓s22 F hn T, ↓s14 F hn T, ↓s18 F hn, f1, g, g41, rf_n f1, rf_y, nf, kd_44, false_and, ↓reduceIte, TK, lt_run hn, le43, Int.le_refl, Int.lt_irrefl, Option.some.injEq, exists_eq_left', true_and, and_true, if_true, if_false, decide_eq_false_iff_not, decide_eq_true_eq, Nat.reduceAdd, Nat.reduceLeDiff, Nat.reduceLT, Int.reduceAdd, Int.reduceSub, Int.reduceMul, Int.reduceNeg, not_true_eq_false, not_false_eq_true]
    first | exact e59l F hn (by omega) k1 | (split <;> exact e59l F hn (by omega) k1)
  rw [if_pos g] at kk
  have nb := num_b (t := t) (f := -1) T.2.1 T.1 1 20 (p := w + 1 + 1) (by omega) (Or.inl rfl)
  have nr := num_rel (b := b) (t := t) T.2.1 (lo := 1) (hi := 20) (p := w + 1 + 1) (by omega)
  by_cases g2 : (numC b t 1 20 (w + 1 + 1) (-1)).2.2 = -1
  case neg =>
    rw [if_neg g2] at kk
    have k1 := kk h (numC b t 1 20 (w + 1 + 1) (-1)).2.1 (by omega) (by omega) Ef.refl mm (fun z => absurd z g2)
    have f2 := nb.2.1.resolve_left g2
    simp +decide (maxSteps := 4000000) (disch := omega) only [k59_0, k59_2, k59_3, k59_4, k59_5, k59_7, k59_r, k59_s, F_al1, T_getI, F_is2i, F_is2r, F_is2m, F_al0, F_is3i, F_is3r, F_is3m, T_I, F_is4i, F_is4r, F_is4m, F_is5i, F_is5r, F_is5m, T_ft, F_il4, J_ifeq, F_il5, T_icge, T_iceq, T_goto, F_inc5i, F_inc5r, F_inc5m, F_il3, T_sub, F_is6i, F_is6r, F_is6m, F_il6, T_mul, T_add, T_icle, F_il2, F_is7i, F_is7r, F_is7m, F_il7, T_getR, X_iald, T_iast, T_dupI, T_dupR, T_putI, T_putZ, F_inc7i, F_inc7r, F_inc7m, T_ret, c14, c16, c18, c19, c20, c22, c60, ↓s16, ↓s19, ↓s20, x1, z1, ↓s22 F hn T, ↓s14 F hn T, ↓s18 F hn, g, g41, g2, rf_n g2, kd_44, ↓reduceIte, TK, lt_run hn, le43, Int.le_refl, Int.lt_irrefl, Option.some.injEq, exists_eq_left', true_and, and_true, if_true, if_false, decide_eq_false_iff_not, decide_eq_true_eq, Nat.reduceAdd, Nat.reduceLeDiff, Nat.reduceLT, Int.reduceAdd, Int.reduceSub, Int.reduceMul, Int.reduceNeg, not_true_eq_false, not_false_eq_true]
    first | exact e59l F hn f2 k1 | (split <;> exact e59l F hn f2 k1)
  rw [if_pos g2] at kk
  obtain ⟨_, q1, q2, q3⟩ := nr.2 g2
  obtain ⟨k, hk⟩ : ∃ k, (numC b t 1 20 (w + 1 + 1) (-1)).1 = k := ⟨_, rfl⟩
  obtain ⟨w2, hw2⟩ : ∃ w2, (numC b t 1 20 (w + 1 + 1) (-1)).2.1 = w2 := ⟨_, rfl⟩
  rw [hk] at q1 kk
  rw [hw2] at q2 q3 kk
  have e1 : (r.2.2.1 - m) * (k - 1) = (r.2.2.1 - m) * k - (r.2.2.1 - m) := by rw [Int.mul_sub, Int.mul_one]
  have e2 := Int.mul_nonneg (show 0 ≤ r.2.2.1 - m by omega) (show 0 ≤ k - 1 by omega)
  have e3 := mulb (a := r.2.2.1 - m) (b := k) (A := 120) (B := 20) (by omega) (by omega)
  unfold br3 at kk
  by_cases g3 : m + (r.2.2.1 - m) * k ≤ 120
  case neg =>
    rw [if_neg g3] at kk
    have f1 : p ≠ -1 := by omega
    have k1 := kk h w2 (by omega) (by omega) Ef.refl mm (fun z => absurd z f1)
    simp +decide (maxSteps := 4000000) (disch := omega) only [k59_0, k59_2, k59_3, k59_4, k59_5, k59_7, k59_r, k59_s, F_al1, T_getI, F_is2i, F_is2r, F_is2m, F_al0, F_is3i, F_is3r, F_is3m, T_I, F_is4i, F_is4r, F_is4m, F_is5i, F_is5r, F_is5m, T_ft, F_il4, J_ifeq, F_il5, T_icge, T_iceq, T_goto, F_inc5i, F_inc5r, F_inc5m, F_il3, T_sub, F_is6i, F_is6r, F_is6m, F_il6, T_mul, T_add, T_icle, F_il2, F_is7i, F_is7r, F_is7m, F_il7, T_getR, X_iald, T_iast, T_dupI, T_dupR, T_putI, T_putZ, F_inc7i, F_inc7r, F_inc7m, T_ret, c14, c16, c18, c19, c20, c22, c60, ↓s16, ↓s19, ↓s20, x1, z1, ↓s22 F hn T, ↓s14 F hn T, ↓s18 F hn, g, g41, g2, hk, hw2, rf_y, kd_44, show ¬ r.2.2.1 + (r.2.2.1 - m) * (k - 1) ≤ 120 by omega, ↓reduceIte, TK, lt_run hn, le43, Int.le_refl, Int.lt_irrefl, Option.some.injEq, exists_eq_left', true_and, and_true, if_true, if_false, decide_eq_false_iff_not, decide_eq_true_eq, Nat.reduceAdd, Nat.reduceLeDiff, Nat.reduceLT, Int.reduceAdd, Int.reduceSub, Int.reduceMul, Int.reduceNeg, not_true_eq_false, not_false_eq_true]
    exact e59l F hn (by omega) k1
  rw [if_pos g3] at kk
  simp +decide (maxSteps := 4000000) (disch := omega) only [k59_0, k59_2, k59_3, k59_4, k59_5, k59_7, k59_r, k59_s, F_al1, T_getI, F_is2i, F_is2r, F_is2m, F_al0, F_is3i, F_is3r, F_is3m, T_I, F_is4i, F_is4r, F_is4m, F_is5i, F_is5r, F_is5m, T_ft, F_il4, J_ifeq, F_il5, T_icge, T_iceq, T_goto, F_inc5i, F_inc5r, F_inc5m, F_il3, T_sub, F_is6i, F_is6r, F_is6m, F_il6, T_mul, T_add, T_icle, F_il2, F_is7i, F_is7r, F_is7m, F_il7, T_getR, X_iald, T_iast, T_dupI, T_dupR, T_putI, T_putZ, F_inc7i, F_inc7r, F_inc7m, T_ret, c14, c16, c18, c19, c20, c22, c60, ↓s16, ↓s19, ↓s20, x1, z1, ↓s22 F hn T, ↓s14 F hn T, ↓s18 F hn, g, g41, g2, hk, hw2, rf_y, kd_44, show r.2.2.1 + (r.2.2.1 - m) * (k - 1) ≤ 120 by omega, ↓reduceIte, TK, lt_run hn, le43, Int.le_refl, Int.lt_irrefl, Option.some.injEq, exists_eq_left', true_and, and_true, if_true, if_false, decide_eq_false_iff_not, decide_eq_true_eq, Nat.reduceAdd, Nat.reduceLeDiff, Nat.reduceLT, Int.reduceAdd, Int.reduceSub, Int.reduceMul, Int.reduceNeg, not_true_eq_false, not_false_eq_true]
  refine T_for (σ := Unit) (fun i _ => [.ref (623 + 3 * l.toNat), .ref 44, .int (J p), .int (J m), .int v4, .int (J k), .int (J (r.2.2.1 - m)), .int (J i)]) (fun i _ h' => ∃ h2, h' = RS h2 w2 (-1) ∧ Ef (Sdw l.toNat) h h2 ∧ Rz h2 (623 + 3 * l.toNat) 3 (625 + 3 * l.toNat) (m + i) (rpD r m)) (r.2.2.1 - m) ((r.2.2.1 - m) * k) ?_ ?_ (r.2.2.1 - m) () _ (by omega) (by omega) ⟨h, rfl, Ef.refl, by rw [show m + (r.2.2.1 - m) = r.2.2.1 by omega]; exact R.1, fun j j0 j1 => by rw [R.2 j j0 (by omega)]; unfold rpD; rw [if_pos (by omega)]⟩
  · rintro i _ _ i0 i1 ⟨h2, rfl, a2, d2, d3⟩ ih
    have rs := rpD_s (r := r) (m := m) (j := m + i) (by omega) (by omega)
    have z2 : RS h2 w2 (-1) (623 + 3 * l.toNat) 3 = J (m + i) := by rw [RS_o (by omega)]; exact d2
    have z4 : gA (RS h2 w2 (-1)) (625 + 3 * l.toNat) (m + i - (r.2.2.1 - m)) = J (rpD r m (m + i)) := by rw [RS_g (by omega), d3 _ (by omega) (by omega), rs.1]
    have z3 : sA (RS h2 w2 (-1)) (625 + 3 * l.toNat) (m + i) (J (rpD r m (m + i))) (623 + 3 * l.toNat) 3 = J (m + i) := by rw [sA_o (by omega)]; exact z2
    rw [k59_6]
    simp +decide (maxSteps := 4000000) (disch := omega) only [k59_0, k59_2, k59_3, k59_4, k59_5, k59_7, k59_r, k59_s, F_al1, T_getI, F_is2i, F_is2r, F_is2m, F_al0, F_is3i, F_is3r, F_is3m, T_I, F_is4i, F_is4r, F_is4m, F_is5i, F_is5r, F_is5m, T_ft, F_il4, J_ifeq, F_il5, T_icge, T_iceq, T_goto, F_inc5i, F_inc5r, F_inc5m, F_il3, T_sub, F_is6i, F_is6r, F_is6m, F_il6, T_mul, T_add, T_icle, F_il2, F_is7i, F_is7r, F_is7m, F_il7, T_getR, X_iald, T_iast, T_dupI, T_dupR, T_putI, T_putZ, F_inc7i, F_inc7r, F_inc7m, T_ret, c14, c16, c18, c19, c20, c22, c60, ↓s14, ↓s18, ↓s19, ↓s20, ↓s22, x1, z2, z3, z4, ↓s16 F hn, kd_44, show ¬ (r.2.2.1 - m) * k ≤ i by omega, ↓reduceIte, TK, lt_run hn, le43, Int.le_refl, Int.lt_irrefl, Option.some.injEq, exists_eq_left', true_and, and_true, if_true, if_false, decide_eq_false_iff_not, decide_eq_true_eq, Nat.reduceAdd, Nat.reduceLeDiff, Nat.reduceLT, Int.reduceAdd, Int.reduceSub, Int.reduceMul, Int.reduceNeg, not_true_eq_false, not_false_eq_true]
    rw [RS_d (by omega), RS_c (by omega)]
    refine ih () _ ⟨_, rfl, (a2.sA (Or.inr rfl)).hI (Or.inl ⟨rfl, rfl⟩), ?_, fun j j0 j1 => ?_⟩
    · rw [hI_s, Int.add_assoc]
    · rw [gA_o (by omega)]
      by_cases e : j = m + i
      · rw [e, gs_s]
      · rw [gs_k (by omega) j0 e]
        exact d3 j j0 (by omega)
  · rintro _ _ ⟨h2, rfl, a2, d2, d3⟩
    rw [k59_6]
    simp +decide (maxSteps := 4000000) (disch := omega) only [k59_0, k59_2, k59_3, k59_4, k59_5, k59_7, k59_r, k59_s, F_al1, T_getI, F_is2i, F_is2r, F_is2m, F_al0, F_is3i, F_is3r, F_is3m, T_I, F_is4i, F_is4r, F_is4m, F_is5i, F_is5r, F_is5m, T_ft, F_il4, J_ifeq, F_il5, T_icge, T_iceq, T_goto, F_inc5i, F_inc5r, F_inc5m, F_il3, T_sub, F_is6i, F_is6r, F_is6m, F_il6, T_mul, T_add, T_icle, F_il2, F_is7i, F_is7r, F_is7m, F_il7, T_getR, X_iald, T_iast, T_dupI, T_dupR, T_putI, T_putZ, F_inc7i, F_inc7r, F_inc7m, T_ret, c14, c16, c18, c19, c20, c22, c60, ↓s14, ↓s16, ↓s18, ↓s19, ↓s20, ↓s22, ↓reduceIte, TK, lt_run hn, le43, Int.le_refl, Int.lt_irrefl, Option.some.injEq, exists_eq_left', true_and, and_true, if_true, if_false, decide_eq_false_iff_not, decide_eq_true_eq, Nat.reduceAdd, Nat.reduceLeDiff, Nat.reduceLT, Int.reduceAdd, Int.reduceSub, Int.reduceMul, Int.reduceNeg, not_true_eq_false, not_false_eq_true]
    exact kk h2 w2 (by omega) (by omega) a2 ⟨_, by omega, d2⟩ (fun _ => ⟨rfl, d2, d3⟩)
theorem w59 (F : FH hr) (hn : 775 ≤ n) (l0 : 0 ≤ l) (l1 : l < 4) (T : TpC h t b) (R : Rz h (623 + 3 * l.toNat) 3 (625 + 3 * l.toNat) m D) (hm : 0 ≤ m ∧ m ≤ 120) (hD : Rg D) (hp : 0 ≤ p ∧ p ≤ t) (g40 : bt b t p = 40) (kk : Ic l hr n Q h (brk b t m p D)) : Sp E 59 [.ref (623 + 3 * l.toNat), .ref 44] (RS h p (-1)) hr n Q := by
  have x1 := X90 E F l0 l1
  have t1 := T.1
  have z1 : RS h p (-1) (623 + 3 * l.toNat) 3 = J m := by rw [RS_o (by omega)]; exact R.1
  have hin := bt_in (b := b) (t := t) (i := p) (by omega)
  have K := its_b (m := m) (p := p) T.1 T.2.1 (by omega) hD
  unfold brk at kk
  unfold its at kk K
  simp +decide (maxSteps := 4000000) (disch := omega) only [k59_0, k59_2, k59_3, k59_4, k59_5, k59_7, k59_r, k59_s, F_al1, T_getI, F_is2i, F_is2r, F_is2m, F_al0, F_is3i, F_is3r, F_is3m, T_I, F_is4i, F_is4r, F_is4m, F_is5i, F_is5r, F_is5m, T_ft, F_il4, J_ifeq, F_il5, T_icge, T_iceq, T_goto, F_inc5i, F_inc5r, F_inc5m, F_il3, T_sub, F_is6i, F_is6r, F_is6m, F_il6, T_mul, T_add, T_icle, F_il2, F_is7i, F_is7r, F_is7m, F_il7, T_getR, X_iald, T_iast, T_dupI, T_dupR, T_putI, T_putZ, F_inc7i, F_inc7r, F_inc7m, T_ret, c14, c16, c18, c19, c20, c22, c60, ↓s14, ↓s16, ↓s18, ↓s19, ↓s20, x1, z1, RX, ↓s22 F hn T, g40, kd_44, ↓reduceIte, TK, lt_run hn, le43, Int.le_refl, Int.lt_irrefl, Option.some.injEq, exists_eq_left', true_and, and_true, if_true, if_false, decide_eq_false_iff_not, decide_eq_true_eq, Nat.reduceAdd, Nat.reduceLeDiff, Nat.reduceLT, Int.reduceAdd, Int.reduceSub, Int.reduceMul, Int.reduceNeg, not_true_eq_false, not_false_eq_true]
  refine z59 F hn l0 l1 1602 0 (p + 1) m D h (by omega) (by omega) (by omega) (by omega) (by omega) hm hD T R (fun h1 w u v4 v5 a1 a2 a3 a4 a5 a6 => ?_) (fun h1 w v4 v5 a1 a2 a3 a4 a5 a6 a7 => ?_)
  · rw [if_neg a5] at kk
    obtain ⟨m1, b1, b2⟩ := a4
    exact e59f F hn l0 l1 (T.ef a3 (fun q => by unfold Sdw at q; omega) (fun k q => by unfold Sdw at q; omega)) b2 b1 hm ⟨a1, a2⟩ (K.1.resolve_left a5) a6 (kk h1 w a1 a2 a3 ⟨m1, b1, b2⟩ (fun z => absurd z a5))
  · rw [if_pos a4] at kk
    have := (K.2 a4).2.1
    exact e59 F hn l0 l1 (T.ef a3 (fun q => by unfold Sdw at q; omega) (fun k q => by unfold Sdw at q; omega)) a7 (by omega) (by omega) ⟨a1, a2⟩ a6 a5 (fun h' p' c1 c2 c3 => kk h' p' c1 c2 (a3.trans c3))
end BK
