/-! sheet: items -/
abbrev Qd := Int × Int × Int × (Int → Int)
def Rz (h : AHi) (o c a : Nat) (m : Int) (D : Int → Int) : Prop := h o c = J m ∧ ∀ j, 0 ≤ j → j < m → gA h a j = J (D j)
def xD (D : Int → Int) (m d : Int) : Int → Int := fun j => if j < m then D j else d
/-- fault, place, how many cells, the cells -/
def it3 (m p : Int) (D : Int → Int) (d k w : Int) : Qd := if m + k ≤ 120 then (-1, w, m + k, xD D m d) else (p, 0, 0, D)
def it2 (b : Int → Int) (t m p : Int) (D : Int → Int) (d w : Int) : Qd := if bt b t w = 42 then (if (numC b t 1 99 (w + 1) (-1)).2.2 = -1 then it3 m p D d (numC b t 1 99 (w + 1) (-1)).1 (numC b t 1 99 (w + 1) (-1)).2.1 else ((numC b t 1 99 (w + 1) (-1)).2.2, 0, 0, D)) else it3 m p D d 1 w
def itq (b : Int → Int) (t m p : Int) (D : Int → Int) : Qd := if bt b t p = 45 then it2 b t m p D (-1) (p + 1) else if (numC b t 0 15 p (-1)).2.2 = -1 then it2 b t m p D (numC b t 0 15 p (-1)).1 (numC b t 0 15 p (-1)).2.1 else ((numC b t 0 15 p (-1)).2.2, 0, 0, D)
def Rg (D : Int → Int) : Prop := ∀ j, -1 ≤ D j ∧ D j ≤ 15
def Qk (t m p : Int) (r : Qd) : Prop := (r.1 = -1 ∨ 0 ≤ r.1 ∧ r.1 ≤ 1700) ∧ (r.1 = -1 → (p < r.2.1 ∧ r.2.1 ≤ t) ∧ (m < r.2.2.1 ∧ r.2.2.1 ≤ 120) ∧ Rg r.2.2.2)
theorem Qk_f {t m p f x y : Int} {D : Int → Int} (h : f ≠ -1) (h2 : f = -1 ∨ 0 ≤ f ∧ f ≤ 1700) : Qk t m p (f, x, y, D) := ⟨h2, fun q => absurd q h⟩
theorem it3_b {t m p d k w : Int} {D : Int → Int} (hp : 0 ≤ p ∧ p ≤ 1700) (hw : p < w ∧ w ≤ t) (hk : 1 ≤ k) (hd : -1 ≤ d ∧ d ≤ 15) (hD : Rg D) : Qk t m p (it3 m p D d k w) := by
  unfold it3
  by_cases g : m + k ≤ 120
  · rw [if_pos g]
    refine ⟨Or.inl rfl, fun _ => ⟨hw, ⟨?_, g⟩, fun j => ?_⟩⟩
    · show m < m + k
      omega
    · show -1 ≤ xD D m d j ∧ xD D m d j ≤ 15
      unfold xD
      split
      · exact hD j
      · exact hd
  · rw [if_neg g]
    exact Qk_f (by omega) (by omega)
theorem it2_b {b : Int → Int} {t m p d w : Int} {D : Int → Int} (ht : 0 ≤ t ∧ t ≤ 1600) (hb : ∀ i, 0 ≤ b i ∧ b i ≤ 255) (hp : 0 ≤ p ∧ p ≤ 1700) (hw : p < w ∧ w ≤ t) (hd : -1 ≤ d ∧ d ≤ 15) (hD : Rg D) : Qk t m p (it2 b t m p D d w) := by
  unfold it2
  have nb := num_b (t := t) (f := -1) hb ht 1 99 (p := w + 1) (by omega) (Or.inl rfl)
  have nr := num_rel (b := b) (t := t) hb (lo := 1) (hi := 99) (p := w + 1) (by omega)
  by_cases g : bt b t w = 42
  · rw [if_pos g]
    by_cases g2 : (numC b t 1 99 (w + 1) (-1)).2.2 = -1
    · obtain ⟨_, q1, q2, q3⟩ := nr.2 g2
      rw [if_pos g2]
      exact it3_b hp (by omega) (by omega) hd hD
    · rw [if_neg g2]
      exact Qk_f g2 nb.2.1
  · rw [if_neg g]
    exact it3_b hp hw (by decide) hd hD
theorem itq_b {b : Int → Int} {t m p : Int} {D : Int → Int} (ht : 0 ≤ t ∧ t ≤ 1600) (hb : ∀ i, 0 ≤ b i ∧ b i ≤ 255) (hp : 0 ≤ p ∧ p ≤ 1700) (hD : Rg D) : Qk t m p (itq b t m p D) := by
  unfold itq
  have nb := num_b (t := t) (f := -1) hb ht 0 15 (p := p) (by omega) (Or.inl rfl)
  have nr := num_rel (b := b) (t := t) hb (lo := 0) (hi := 15) (p := p) (by omega)
  by_cases g : bt b t p = 45
  · have := bt_in (b := b) (t := t) (i := p) (by omega)
    rw [if_pos g]
    exact it2_b ht hb hp (by omega) (by decide) hD
  · rw [if_neg g]
    by_cases g2 : (numC b t 0 15 p (-1)).2.2 = -1
    · obtain ⟨_, q1, q2, q3⟩ := nr.2 g2
      rw [if_pos g2]
      exact it2_b ht hb hp (by omega) (by omega) hD
    · rw [if_neg g2]
      exact Qk_f g2 nb.2.1
def Sdw (l a k : Nat) : Prop := (a = 623 + 3 * l ∧ k = 3) ∨ a = 625 + 3 * l
def Sdm (a k : Nat) : Prop := (a = 704 ∧ k = 42) ∨ a = 736
section IT
variable {E : AEn} {h h' : AHi} {hr : AHr} {n : Nat} {Q : ARs → Prop} {l t p f m d k w : Int} {b D : Int → Int} {r : Qd}
/-- what comes behind the class's reading of an item -/
def Ic (l : Int) (hr : AHr) (n : Nat) (Q : ARs → Prop) (h : AHi) (r : Qd) : Prop := ∀ h' p', 0 ≤ p' → p' ≤ 1700 → Ef (Sdw l.toNat) h h' → (∃ m', (0 ≤ m' ∧ m' ≤ 120) ∧ h' (623 + 3 * l.toNat) 3 = J m') → (r.1 = -1 → p' = r.2.1 ∧ Rz h' (623 + 3 * l.toNat) 3 (625 + 3 * l.toNat) r.2.2.1 r.2.2.2) → Q (none, RS h' p' r.1, hr, n)
def Im (hr : AHr) (n : Nat) (Q : ARs → Prop) (h : AHi) (r : Qd) : Prop := ∀ h' p', 0 ≤ p' → p' ≤ 1700 → Ef Sdm h h' → (∃ m', (0 ≤ m' ∧ m' ≤ 120) ∧ h' 704 42 = J m') → (r.1 = -1 → p' = r.2.1 ∧ Rz h' 704 42 736 r.2.2.1 r.2.2.2) → Q (none, MS h' p' r.1, hr, n)
theorem e60f (F : FH hr) (hn : 775 ≤ n) (l0 : 0 ≤ l) (l1 : l < 4) (c : h (623 + 3 * l.toNat) 3 = J m) (hm : 0 ≤ m ∧ m ≤ 120) (hk : 0 ≤ k ∧ k < 1000000000) (hf : 0 ≤ f ∧ f ≤ 1700) (kk : Q (none, RS h w f, hr, n)) : Tm E 60 (a_bl 60 4) [.ref (623 + 3 * l.toNat), .ref 44, .int (J p), .int (J d), a_mk, a_mk] [.int (J k)] (RS h w f) hr n Q := by
  have x1 := X90 E F l0 l1
  have f1 : f ≠ -1 := by omega
  have z1 : RS h w f (623 + 3 * l.toNat) 3 = J m := by rw [RS_o (by omega)]; exact c
  have lp : Tm E 60 (a_bl 60 6) [.ref (623 + 3 * l.toNat), .ref 44, .int (J p), .int (J d), .int (J k), .int (J 0)] [] (RS h w f) hr n Q := by
    by_cases g : k ≤ 0
    · rw [k60_6]
      simp +decide (maxSteps := 4000000) (disch := omega) only [k60_0, k60_1, k60_2, k60_3, k60_4, k60_5, k60_7, k60_r, k60_s, F_al1, T_getI, F_is2i, F_is2r, F_is2m, T_I, J_ifeq, T_goto, T_ft, F_is3i, F_is3r, F_is3m, F_is4i, F_is4r, F_is4m, F_al0, F_il4, T_add, T_icle, F_il2, F_is5i, F_is5r, F_is5m, F_il5, T_icge, T_getR, F_il3, T_iast, T_dupI, T_dupR, T_putI, T_putZ, F_inc5i, F_inc5r, F_inc5m, T_ret, c14, c16, c18, c23, ↓s14, ↓s16, ↓s18, ↓s23, g, ↓reduceIte, TK, lt_run hn, le43, Int.le_refl, Int.lt_irrefl, Option.some.injEq, exists_eq_left', true_and, and_true, if_true, if_false, decide_eq_false_iff_not, decide_eq_true_eq, Nat.reduceAdd, Nat.reduceLeDiff, Nat.reduceLT, Int.reduceAdd, Int.reduceSub, Int.reduceMul, Int.reduceNeg, not_true_eq_false, not_false_eq_true]
      exact kk
    · rw [k60_6]
      simp +decide (maxSteps := 4000000) (disch := omega) only [k60_0, k60_1, k60_2, k60_3, k60_4, k60_5, k60_7, k60_r, k60_s, F_al1, T_getI, F_is2i, F_is2r, F_is2m, T_I, J_ifeq, T_goto, T_ft, F_is3i, F_is3r, F_is3m, F_is4i, F_is4r, F_is4m, F_al0, F_il4, T_add, T_icle, F_il2, F_is5i, F_is5r, F_is5m, F_il5, T_icge, T_getR, F_il3, T_iast, T_dupI, T_dupR, T_putI, T_putZ, F_inc5i, F_inc5r, F_inc5m, T_ret, c14, c16, c18, c23, ↓s14, ↓s18, ↓s23, g, ↓s16 F hn, f1, ↓reduceIte, TK, lt_run hn, le43, Int.le_refl, Int.lt_irrefl, Option.some.injEq, exists_eq_left', true_and, and_true, if_true, if_false, decide_eq_false_iff_not, decide_eq_true_eq, Nat.reduceAdd, Nat.reduceLeDiff, Nat.reduceLT, Int.reduceAdd, Int.reduceSub, Int.reduceMul, Int.reduceNeg, not_true_eq_false, not_false_eq_true]
      exact kk
  rw [k60_4]
  by_cases g : m + k ≤ 120
  · simp +decide (maxSteps := 4000000) (disch := omega) only [k60_0, k60_1, k60_2, k60_3, k60_4, k60_5, k60_7, k60_r, k60_s, F_al1, T_getI, F_is2i, F_is2r, F_is2m, T_I, J_ifeq, T_goto, T_ft, F_is3i, F_is3r, F_is3m, F_is4i, F_is4r, F_is4m, F_al0, F_il4, T_add, T_icle, F_il2, F_is5i, F_is5r, F_is5m, F_il5, T_icge, T_getR, F_il3, T_iast, T_dupI, T_dupR, T_putI, T_putZ, F_inc5i, F_inc5r, F_inc5m, T_ret, c14, c16, c18, c23, ↓s14, ↓s16, ↓s18, ↓s23, x1, z1, g, ↓reduceIte, TK, lt_run hn, le43, Int.le_refl, Int.lt_irrefl, Option.some.injEq, exists_eq_left', true_and, and_true, if_true, if_false, decide_eq_false_iff_not, decide_eq_true_eq, Nat.reduceAdd, Nat.reduceLeDiff, Nat.reduceLT, Int.reduceAdd, Int.reduceSub, Int.reduceMul, Int.reduceNeg, not_true_eq_false, not_false_eq_true]
    exact lp
  · simp +decide (maxSteps := 4000000) (disch := omega) only [k60_0, k60_1, k60_2, k60_3, k60_4, k60_5, k60_7, k60_r, k60_s, F_al1, T_getI, F_is2i, F_is2r, F_is2m, T_I, J_ifeq, T_goto, T_ft, F_is3i, F_is3r, F_is3m, F_is4i, F_is4r, F_is4m, F_al0, F_il4, T_add, T_icle, F_il2, F_is5i, F_is5r, F_is5m, F_il5, T_icge, T_getR, F_il3, T_iast, T_dupI, T_dupR, T_putI, T_putZ, F_inc5i, F_inc5r, F_inc5m, T_ret, c14, c16, c18, c23, ↓s14, ↓s16, ↓s23, x1, z1, g, ↓s18 F hn, rf_n f1, kd_44, ↓reduceIte, TK, lt_run hn, le43, Int.le_refl, Int.lt_irrefl, Option.some.injEq, exists_eq_left', true_and, and_true, if_true, if_false, decide_eq_false_iff_not, decide_eq_true_eq, Nat.reduceAdd, Nat.reduceLeDiff, Nat.reduceLT, Int.reduceAdd, Int.reduceSub, Int.reduceMul, Int.reduceNeg, not_true_eq_false, not_false_eq_true]
    exact lp
theorem e60 (F : FH hr) (hn : 775 ≤ n) (l0 : 0 ≤ l) (l1 : l < 4) (R : Rz h (623 + 3 * l.toNat) 3 (625 + 3 * l.toNat) m D) (hm : 0 ≤ m ∧ m ≤ 120) (hk : 1 ≤ k ∧ k ≤ 99) (hp : 0 ≤ p ∧ p ≤ 1700) (hw : 0 ≤ w ∧ w ≤ 1700) (hd : -1 ≤ d ∧ d ≤ 15) (kk : Ic l hr n Q h (it3 m p D d k w)) : Tm E 60 (a_bl 60 4) [.ref (623 + 3 * l.toNat), .ref 44, .int (J p), .int (J d), a_mk, a_mk] [.int (J k)] (RS h w (-1)) hr n Q := by
  have x1 := X90 E F l0 l1
  have z1 : RS h w (-1) (623 + 3 * l.toNat) 3 = J m := by rw [RS_o (by omega)]; exact R.1
  rw [k60_4]
  unfold it3 at kk
  by_cases g : m + k ≤ 120
  · rw [if_pos g] at kk
    simp +decide (maxSteps := 4000000) (disch := omega) only [k60_0, k60_1, k60_2, k60_3, k60_4, k60_5, k60_7, k60_r, k60_s, F_al1, T_getI, F_is2i, F_is2r, F_is2m, T_I, J_ifeq, T_goto, T_ft, F_is3i, F_is3r, F_is3m, F_is4i, F_is4r, F_is4m, F_al0, F_il4, T_add, T_icle, F_il2, F_is5i, F_is5r, F_is5m, F_il5, T_icge, T_getR, F_il3, T_iast, T_dupI, T_dupR, T_putI, T_putZ, F_inc5i, F_inc5r, F_inc5m, T_ret, c14, c16, c18, c23, ↓s14, ↓s16, ↓s18, ↓s23, x1, z1, g, ↓reduceIte, TK, lt_run hn, le43, Int.le_refl, Int.lt_irrefl, Option.some.injEq, exists_eq_left', true_and, and_true, if_true, if_false, decide_eq_false_iff_not, decide_eq_true_eq, Nat.reduceAdd, Nat.reduceLeDiff, Nat.reduceLT, Int.reduceAdd, Int.reduceSub, Int.reduceMul, Int.reduceNeg, not_true_eq_false, not_false_eq_true]
    refine T_for (σ := Unit) (fun i _ => [.ref (623 + 3 * l.toNat), .ref 44, .int (J p), .int (J d), .int (J k), .int (J i)]) (fun i _ h' => ∃ h2, h' = RS h2 w (-1) ∧ Ef (Sdw l.toNat) h h2 ∧ Rz h2 (623 + 3 * l.toNat) 3 (625 + 3 * l.toNat) (m + i) (xD D m d)) 0 k ?_ ?_ 0 () _ (by omega) (by omega) ⟨h, rfl, Ef.refl, by rw [Int.add_zero]; exact R.1, fun j j0 j1 => by rw [R.2 j j0 (by omega)]; unfold xD; rw [if_pos (by omega)]⟩
    · rintro i _ _ i0 i1 ⟨h2, rfl, e2, d2, d3⟩ ih
      have z2 : RS h2 w (-1) (623 + 3 * l.toNat) 3 = J (m + i) := by rw [RS_o (by omega)]; exact d2
      have z3 : sA (RS h2 w (-1)) (625 + 3 * l.toNat) (m + i) (J d) (623 + 3 * l.toNat) 3 = J (m + i) := by rw [sA_o (by omega)]; exact z2
      rw [k60_6]
      simp +decide (maxSteps := 4000000) (disch := omega) only [k60_0, k60_1, k60_2, k60_3, k60_4, k60_5, k60_7, k60_r, k60_s, F_al1, T_getI, F_is2i, F_is2r, F_is2m, T_I, J_ifeq, T_goto, T_ft, F_is3i, F_is3r, F_is3m, F_is4i, F_is4r, F_is4m, F_al0, F_il4, T_add, T_icle, F_il2, F_is5i, F_is5r, F_is5m, F_il5, T_icge, T_getR, F_il3, T_iast, T_dupI, T_dupR, T_putI, T_putZ, F_inc5i, F_inc5r, F_inc5m, T_ret, c14, c16, c18, c23, ↓s14, ↓s18, ↓s23, x1, z2, z3, ↓s16 F hn, kd_44, show ¬ k ≤ i by omega, ↓reduceIte, TK, lt_run hn, le43, Int.le_refl, Int.lt_irrefl, Option.some.injEq, exists_eq_left', true_and, and_true, if_true, if_false, decide_eq_false_iff_not, decide_eq_true_eq, Nat.reduceAdd, Nat.reduceLeDiff, Nat.reduceLT, Int.reduceAdd, Int.reduceSub, Int.reduceMul, Int.reduceNeg, not_true_eq_false, not_false_eq_true]
      rw [RS_d (by omega), RS_c (by omega)]
      refine ih () _ ⟨_, rfl, (e2.sA (Or.inr rfl)).hI (Or.inl ⟨rfl, rfl⟩), ?_, fun j j0 j1 => ?_⟩
      · rw [hI_s, Int.add_assoc]
      · rw [gA_o (by omega)]
        by_cases e : j = m + i
        · rw [e, gs_s]
          unfold xD
          rw [if_neg (by omega)]
        · rw [gs_k (by omega) j0 e]
          exact d3 j j0 (by omega)
    · rintro _ _ ⟨h2, rfl, e2, d2, d3⟩
      rw [k60_6]
      simp +decide (maxSteps := 4000000) (disch := omega) only [k60_0, k60_1, k60_2, k60_3, k60_4, k60_5, k60_7, k60_r, k60_s, F_al1, T_getI, F_is2i, F_is2r, F_is2m, T_I, J_ifeq, T_goto, T_ft, F_is3i, F_is3r, F_is3m, F_is4i, F_is4r, F_is4m, F_al0, F_il4, T_add, T_icle, F_il2, F_is5i, F_is5r, F_is5m, F_il5, T_icge, T_getR, F_il3, T_iast, T_dupI, T_dupR, T_putI, T_putZ, F_inc5i, F_inc5r, F_inc5m, T_ret, c14, c16, c18, c23, ↓s14, ↓s16, ↓s18, ↓s23, ↓reduceIte, TK, lt_run hn, le43, Int.le_refl, Int.lt_irrefl, Option.some.injEq, exists_eq_left', true_and, and_true, if_true, if_false, decide_eq_false_iff_not, decide_eq_true_eq, Nat.reduceAdd, Nat.reduceLeDiff, Nat.reduceLT, Int.reduceAdd, Int.reduceSub, Int.reduceMul, Int.reduceNeg, not_true_eq_false, not_false_eq_true]
      exact kk h2 w hw.1 hw.2 e2 ⟨m + k, by omega, d2⟩ (fun _ => ⟨rfl, d2, d3⟩)
  · rw [if_neg g] at kk
    have f1 : p ≠ -1 := by omega
    simp +decide (maxSteps := 4000000) (disch := omega) only [k60_0, k60_1, k60_2, k60_3, k60_4, k60_5, k60_7, k60_r, k60_s, F_al1, T_getI, F_is2i, F_is2r, F_is2m, T_I, J_ifeq, T_goto, T_ft, F_is3i, F_is3r, F_is3m, F_is4i, F_is4r, F_is4m, F_al0, F_il4, T_add, T_icle, F_il2, F_is5i, F_is5r, F_is5m, F_il5, T_icge, T_getR, F_il3, T_iast, T_dupI, T_dupR, T_putI, T_putZ, F_inc5i, F_inc5r, F_inc5m, T_ret, c14, c16, c18, c23, ↓s14, ↓s16, ↓s23, x1, z1, g, ↓s18 F hn, rf_y, kd_44, ↓reduceIte, TK, lt_run hn, le43, Int.le_refl, Int.lt_irrefl, Option.some.injEq, exists_eq_left', true_and, and_true, if_true, if_false, decide_eq_false_iff_not, decide_eq_true_eq, Nat.reduceAdd, Nat.reduceLeDiff, Nat.reduceLT, Int.reduceAdd, Int.reduceSub, Int.reduceMul, Int.reduceNeg, not_true_eq_false, not_false_eq_true]
    rw [k60_6]
    simp +decide (maxSteps := 4000000) (disch := omega) only [k60_0, k60_1, k60_2, k60_3, k60_4, k60_5, k60_7, k60_r, k60_s, F_al1, T_getI, F_is2i, F_is2r, F_is2m, T_I, J_ifeq, T_goto, T_ft, F_is3i, F_is3r, F_is3m, F_is4i, F_is4r, F_is4m, F_al0, F_il4, T_add, T_icle, F_il2, F_is5i, F_is5r, F_is5m, F_il5, T_icge, T_getR, F_il3, T_iast, T_dupI, T_dupR, T_putI, T_putZ, F_inc5i, F_inc5r, F_inc5m, T_ret, c14, c16, c18, c23, ↓s14, ↓s18, ↓s23, ↓s16 F hn, f1, kd_44, show ¬ k ≤ 0 by omega, ↓reduceIte, TK, lt_run hn, le43, Int.le_refl, Int.lt_irrefl, Option.some.injEq, exists_eq_left', true_and, and_true, if_true, if_false, decide_eq_false_iff_not, decide_eq_true_eq, Nat.reduceAdd, Nat.reduceLeDiff, Nat.reduceLT, Int.reduceAdd, Int.reduceSub, Int.reduceMul, Int.reduceNeg, not_true_eq_false, not_false_eq_true]
    exact kk h w hw.1 hw.2 Ef.refl ⟨m, hm, R.1⟩ (fun q => absurd q f1)
theorem w60 (F : FH hr) (hn : 775 ≤ n) (l0 : 0 ≤ l) (l1 : l < 4) (T : TpC h t b) (R : Rz h (623 + 3 * l.toNat) 3 (625 + 3 * l.toNat) m D) (hm : 0 ≤ m ∧ m ≤ 120) (hp : 0 ≤ p ∧ p ≤ 1650) (kk : Ic l hr n Q h (itq b t m p D)) : Sp E 60 [.ref (623 + 3 * l.toNat), .ref 44] (RS h p (-1)) hr n Q := by
  have t1 := T.1
  have bad : ∀ f w d, (0 ≤ f ∧ f ≤ 1700) → (0 ≤ w ∧ w ≤ 1700) → Q (none, RS h w f, hr, n) → Tm E 60 (a_bl 60 2) [.ref (623 + 3 * l.toNat), .ref 44, .int (J p), a_mk, a_mk, a_mk] [.int (J d)] (RS h w f) hr n Q := fun f w d f0 w0 q => by
    have f1 : ¬ f = -1 := by omega
    have g3 := e60f (E := E) (p := p) (d := d) (k := 1) F hn l0 l1 R.1 hm (by decide) f0 q
    rw [k60_2]
    simp +decide (maxSteps := 4000000) (disch := omega) only [k60_0, k60_1, k60_2, k60_3, k60_5, k60_7, k60_r, k60_s, F_al1, T_getI, F_is2i, F_is2r, F_is2m, T_I, J_ifeq, T_goto, T_ft, F_is3i, F_is3r, F_is3m, F_is4i, F_is4r, F_is4m, F_al0, F_il4, T_add, T_icle, F_il2, F_is5i, F_is5r, F_is5m, F_il5, T_icge, T_getR, F_il3, T_iast, T_dupI, T_dupR, T_putI, T_putZ, F_inc5i, F_inc5r, F_inc5m, T_ret, c14, c16, c18, c23, ↓s14, ↓s16, ↓s18, ↓s23 F hn T, f1, kd_44, ↓reduceIte, TK, lt_run hn, le43, Int.le_refl, Int.lt_irrefl, Option.some.injEq, exists_eq_left', true_and, and_true, if_true, if_false, decide_eq_false_iff_not, decide_eq_true_eq, Nat.reduceAdd, Nat.reduceLeDiff, Nat.reduceLT, Int.reduceAdd, Int.reduceSub, Int.reduceMul, Int.reduceNeg, not_true_eq_false, not_false_eq_true]
    exact g3
  have sec : ∀ w d, (p < w ∧ w ≤ 1651) → (-1 ≤ d ∧ d ≤ 15) → Ic l hr n Q h (it2 b t m p D d w) → Tm E 60 (a_bl 60 2) [.ref (623 + 3 * l.toNat), .ref 44, .int (J p), a_mk, a_mk, a_mk] [.int (J d)] (RS h w (-1)) hr n Q := fun w d w0 d0 q => by
    unfold it2 at q
    rw [k60_2]
    by_cases g : bt b t w = 42
    · rw [if_pos g] at q
      have nb := num_b (t := t) (f := -1) T.2.1 T.1 1 99 (p := w + 1) (by omega) (Or.inl rfl)
      have nr := num_rel (b := b) (t := t) T.2.1 (lo := 1) (hi := 99) (p := w + 1) (by omega)
      by_cases g2 : (numC b t 1 99 (w + 1) (-1)).2.2 = -1
      · obtain ⟨_, q1, q2, q3⟩ := nr.2 g2
        rw [if_pos g2] at q
        have g3 := e60 (E := E) F hn l0 l1 R hm q1 (by omega) (by omega) d0 q
        simp +decide (maxSteps := 4000000) (disch := omega) only [k60_0, k60_1, k60_2, k60_3, k60_5, k60_7, k60_r, k60_s, F_al1, T_getI, F_is2i, F_is2r, F_is2m, T_I, J_ifeq, T_goto, T_ft, F_is3i, F_is3r, F_is3m, F_is4i, F_is4r, F_is4m, F_al0, F_il4, T_add, T_icle, F_il2, F_is5i, F_is5r, F_is5m, F_il5, T_icge, T_getR, F_il3, T_iast, T_dupI, T_dupR, T_putI, T_putZ, F_inc5i, F_inc5r, F_inc5m, T_ret, c14, c16, c18, c23, ↓s16, ↓s18, ↓s23 F hn T, ↓s14 F hn T, g, kd_44, ↓reduceIte, TK, lt_run hn, le43, Int.le_refl, Int.lt_irrefl, Option.some.injEq, exists_eq_left', true_and, and_true, if_true, if_false, decide_eq_false_iff_not, decide_eq_true_eq, Nat.reduceAdd, Nat.reduceLeDiff, Nat.reduceLT, Int.reduceAdd, Int.reduceSub, Int.reduceMul, Int.reduceNeg, not_true_eq_false, not_false_eq_true]
        rw [g2]
        exact g3
      · rw [if_neg g2] at q
        have g3 := e60f (E := E) (p := p) (d := d) (w := (numC b t 1 99 (w + 1) (-1)).2.1) F hn l0 l1 R.1 hm nb.2.2 (nb.2.1.resolve_left g2) (q h _ (by omega) (by omega) Ef.refl ⟨m, hm, R.1⟩ (fun z => absurd z g2))
        simp +decide (maxSteps := 4000000) (disch := omega) only [k60_0, k60_1, k60_2, k60_3, k60_5, k60_7, k60_r, k60_s, F_al1, T_getI, F_is2i, F_is2r, F_is2m, T_I, J_ifeq, T_goto, T_ft, F_is3i, F_is3r, F_is3m, F_is4i, F_is4r, F_is4m, F_al0, F_il4, T_add, T_icle, F_il2, F_is5i, F_is5r, F_is5m, F_il5, T_icge, T_getR, F_il3, T_iast, T_dupI, T_dupR, T_putI, T_putZ, F_inc5i, F_inc5r, F_inc5m, T_ret, c14, c16, c18, c23, ↓s16, ↓s18, ↓s23 F hn T, ↓s14 F hn T, g, kd_44, ↓reduceIte, TK, lt_run hn, le43, Int.le_refl, Int.lt_irrefl, Option.some.injEq, exists_eq_left', true_and, and_true, if_true, if_false, decide_eq_false_iff_not, decide_eq_true_eq, Nat.reduceAdd, Nat.reduceLeDiff, Nat.reduceLT, Int.reduceAdd, Int.reduceSub, Int.reduceMul, Int.reduceNeg, not_true_eq_false, not_false_eq_true]
        exact g3
    · rw [if_neg g] at q
      have g3 := e60 (E := E) F hn l0 l1 R hm (by decide) (by omega) (by omega) d0 q
      simp +decide (maxSteps := 4000000) (disch := omega) only [k60_0, k60_1, k60_2, k60_3, k60_5, k60_7, k60_r, k60_s, F_al1, T_getI, F_is2i, F_is2r, F_is2m, T_I, J_ifeq, T_goto, T_ft, F_is3i, F_is3r, F_is3m, F_is4i, F_is4r, F_is4m, F_al0, F_il4, T_add, T_icle, F_il2, F_is5i, F_is5r, F_is5m, F_il5, T_icge, T_getR, F_il3, T_iast, T_dupI, T_dupR, T_putI, T_putZ, F_inc5i, F_inc5r, F_inc5m, T_ret, c14, c16, c18, c23, ↓s14, ↓s16, ↓s18, ↓s23 F hn T, g, kd_44, ↓reduceIte, TK, lt_run hn, le43, Int.le_refl, Int.lt_irrefl, Option.some.injEq, exists_eq_left', true_and, and_true, if_true, if_false, decide_eq_false_iff_not, decide_eq_true_eq, Nat.reduceAdd, Nat.reduceLeDiff, Nat.reduceLT, Int.reduceAdd, Int.reduceSub, Int.reduceMul, Int.reduceNeg, not_true_eq_false, not_false_eq_true]
      exact g3
  unfold itq at kk
  by_cases g : bt b t p = 45
  · rw [if_pos g] at kk
    have g3 := sec (p + 1) (-1) (by omega) (by decide) kk
    simp +decide (maxSteps := 4000000) (disch := omega) only [k60_0, k60_1, k60_3, k60_4, k60_5, k60_7, k60_r, k60_s, F_al1, T_getI, F_is2i, F_is2r, F_is2m, T_I, J_ifeq, T_goto, T_ft, F_is3i, F_is3r, F_is3m, F_is4i, F_is4r, F_is4m, F_al0, F_il4, T_add, T_icle, F_il2, F_is5i, F_is5r, F_is5m, F_il5, T_icge, T_getR, F_il3, T_iast, T_dupI, T_dupR, T_putI, T_putZ, F_inc5i, F_inc5r, F_inc5m, T_ret, c14, c16, c18, c23, ↓s14, ↓s16, ↓s18, ↓s23 F hn T, RX, g, kd_44, ↓reduceIte, TK, lt_run hn, le43, Int.le_refl, Int.lt_irrefl, Option.some.injEq, exists_eq_left', true_and, and_true, if_true, if_false, decide_eq_false_iff_not, decide_eq_true_eq, Nat.reduceAdd, Nat.reduceLeDiff, Nat.reduceLT, Int.reduceAdd, Int.reduceSub, Int.reduceMul, Int.reduceNeg, not_true_eq_false, not_false_eq_true]
    exact g3
  · rw [if_neg g] at kk
    have nb := num_b (t := t) (f := -1) T.2.1 T.1 0 15 (p := p) (by omega) (Or.inl rfl)
    have nr := num_rel (b := b) (t := t) T.2.1 (lo := 0) (hi := 15) (p := p) (by omega)
    by_cases g2 : (numC b t 0 15 p (-1)).2.2 = -1
    · obtain ⟨_, q1, q2, q3⟩ := nr.2 g2
      rw [if_pos g2] at kk
      have g3 := sec _ _ (by omega) (by omega) kk
      simp +decide (maxSteps := 4000000) (disch := omega) only [k60_0, k60_1, k60_3, k60_4, k60_5, k60_7, k60_r, k60_s, F_al1, T_getI, F_is2i, F_is2r, F_is2m, T_I, J_ifeq, T_goto, T_ft, F_is3i, F_is3r, F_is3m, F_is4i, F_is4r, F_is4m, F_al0, F_il4, T_add, T_icle, F_il2, F_is5i, F_is5r, F_is5m, F_il5, T_icge, T_getR, F_il3, T_iast, T_dupI, T_dupR, T_putI, T_putZ, F_inc5i, F_inc5r, F_inc5m, T_ret, c14, c16, c18, c23, ↓s16, ↓s18, ↓s23 F hn T, ↓s14 F hn T, RX, g, kd_44, ↓reduceIte, TK, lt_run hn, le43, Int.le_refl, Int.lt_irrefl, Option.some.injEq, exists_eq_left', true_and, and_true, if_true, if_false, decide_eq_false_iff_not, decide_eq_true_eq, Nat.reduceAdd, Nat.reduceLeDiff, Nat.reduceLT, Int.reduceAdd, Int.reduceSub, Int.reduceMul, Int.reduceNeg, not_true_eq_false, not_false_eq_true]
      rw [g2]
      exact g3
    · rw [if_neg g2] at kk
      have g3 := bad _ (numC b t 0 15 p (-1)).2.1 (numC b t 0 15 p (-1)).1 (nb.2.1.resolve_left g2) (by omega) (kk h _ (by omega) (by omega) Ef.refl ⟨m, hm, R.1⟩ (fun z => absurd z g2))
      simp +decide (maxSteps := 4000000) (disch := omega) only [k60_0, k60_1, k60_3, k60_4, k60_5, k60_7, k60_r, k60_s, F_al1, T_getI, F_is2i, F_is2r, F_is2m, T_I, J_ifeq, T_goto, T_ft, F_is3i, F_is3r, F_is3m, F_is4i, F_is4r, F_is4m, F_al0, F_il4, T_add, T_icle, F_il2, F_is5i, F_is5r, F_is5m, F_il5, T_icge, T_getR, F_il3, T_iast, T_dupI, T_dupR, T_putI, T_putZ, F_inc5i, F_inc5r, F_inc5m, T_ret, c14, c16, c18, c23, ↓s16, ↓s18, ↓s23 F hn T, ↓s14 F hn T, RX, g, kd_44, ↓reduceIte, TK, lt_run hn, le43, Int.le_refl, Int.lt_irrefl, Option.some.injEq, exists_eq_left', true_and, and_true, if_true, if_false, decide_eq_false_iff_not, decide_eq_true_eq, Nat.reduceAdd, Nat.reduceLeDiff, Nat.reduceLT, Int.reduceAdd, Int.reduceSub, Int.reduceMul, Int.reduceNeg, not_true_eq_false, not_false_eq_true]
      exact g3
theorem e267f (F : FH hr) (hn : 775 ≤ n) (hk : -1000000000 ≤ k ∧ k < 1000000000) (hf : 0 ≤ f ∧ f ≤ 1700) (kk : Q (none, MS h w f, hr, n)) : Tm E 267 (a_bl 267 4) [.ref 704, .int (J p), .int (J d), .int (J k), a_mk] [] (MS h w f) hr n Q := by
  have f1 : f ≠ -1 := by omega
  rw [k267_4]
  simp +decide (maxSteps := 4000000) (disch := omega) only [k267_0, k267_1, k267_2, k267_3, k267_4, k267_5, k267_7, k267_r, k267_s, F_al0, J_ifne, T_ret, T_getI, F_is1i, F_is1r, F_is1m, T_I, F_is2i, F_is2r, F_is2m, J_icne, T_dupI, T_dupR, T_add, T_putI, T_putZ, T_goto, T_ft, F_is3i, F_is3r, F_is3m, J_ifeq, F_il3, T_icle, F_il1, F_is4i, F_is4r, F_is4m, F_il4, T_icge, T_getR, F_il2, T_iast, F_inc4i, F_inc4r, F_inc4m, c220, c221, c222, c224, c265, ↓s220, ↓s222, ↓s224, ↓s265, ↓s221 F hn, f1, ↓reduceIte, TK, lt_run hn, le43, Int.le_refl, Int.lt_irrefl, Option.some.injEq, exists_eq_left', true_and, and_true, if_true, if_false, decide_eq_false_iff_not, decide_eq_true_eq, Nat.reduceAdd, Nat.reduceLeDiff, Nat.reduceLT, Int.reduceAdd, Int.reduceSub, Int.reduceMul, Int.reduceNeg, not_true_eq_false, not_false_eq_true]
  by_cases g : k ≤ 0
  · rw [k267_6]
    simp +decide (maxSteps := 4000000) (disch := omega) only [k267_0, k267_1, k267_2, k267_3, k267_4, k267_5, k267_7, k267_r, k267_s, F_al0, J_ifne, T_ret, T_getI, F_is1i, F_is1r, F_is1m, T_I, F_is2i, F_is2r, F_is2m, J_icne, T_dupI, T_dupR, T_add, T_putI, T_putZ, T_goto, T_ft, F_is3i, F_is3r, F_is3m, J_ifeq, F_il3, T_icle, F_il1, F_is4i, F_is4r, F_is4m, F_il4, T_icge, T_getR, F_il2, T_iast, F_inc4i, F_inc4r, F_inc4m, c220, c221, c222, c224, c265, ↓s220, ↓s221, ↓s222, ↓s224, ↓s265, g, ↓reduceIte, TK, lt_run hn, le43, Int.le_refl, Int.lt_irrefl, Option.some.injEq, exists_eq_left', true_and, and_true, if_true, if_false, decide_eq_false_iff_not, decide_eq_true_eq, Nat.reduceAdd, Nat.reduceLeDiff, Nat.reduceLT, Int.reduceAdd, Int.reduceSub, Int.reduceMul, Int.reduceNeg, not_true_eq_false, not_false_eq_true]
    exact kk
  · rw [k267_6]
    simp +decide (maxSteps := 4000000) (disch := omega) only [k267_0, k267_1, k267_2, k267_3, k267_4, k267_5, k267_7, k267_r, k267_s, F_al0, J_ifne, T_ret, T_getI, F_is1i, F_is1r, F_is1m, T_I, F_is2i, F_is2r, F_is2m, J_icne, T_dupI, T_dupR, T_add, T_putI, T_putZ, T_goto, T_ft, F_is3i, F_is3r, F_is3m, J_ifeq, F_il3, T_icle, F_il1, F_is4i, F_is4r, F_is4m, F_il4, T_icge, T_getR, F_il2, T_iast, F_inc4i, F_inc4r, F_inc4m, c220, c221, c222, c224, c265, ↓s220, ↓s222, ↓s224, ↓s265, g, ↓s221 F hn, f1, ↓reduceIte, TK, lt_run hn, le43, Int.le_refl, Int.lt_irrefl, Option.some.injEq, exists_eq_left', true_and, and_true, if_true, if_false, decide_eq_false_iff_not, decide_eq_true_eq, Nat.reduceAdd, Nat.reduceLeDiff, Nat.reduceLT, Int.reduceAdd, Int.reduceSub, Int.reduceMul, Int.reduceNeg, not_true_eq_false, not_false_eq_true]
    exact kk
theorem e267 (F : FH hr) (hn : 775 ≤ n) (R : Rz h 704 42 736 m D) (hm : 0 ≤ m ∧ m ≤ 120) (hk : 1 ≤ k ∧ k ≤ 99) (hp : 0 ≤ p ∧ p ≤ 1700) (hw : 0 ≤ w ∧ w ≤ 1700) (hd : -1 ≤ d ∧ d ≤ 15) (kk : Im hr n Q h (it3 m p D d k w)) : Tm E 267 (a_bl 267 4) [.ref 704, .int (J p), .int (J d), .int (J k), a_mk] [] (MS h w (-1)) hr n Q := by
  have z1 : MS h w (-1) 704 42 = J m := by rw [MS_j (by decide)]; exact R.1
  rw [k267_4]
  unfold it3 at kk
  by_cases g : m + k ≤ 120
  · rw [if_pos g] at kk
    simp +decide (maxSteps := 4000000) (disch := omega) only [k267_0, k267_1, k267_2, k267_3, k267_4, k267_5, k267_7, k267_r, k267_s, F_al0, J_ifne, T_ret, T_getI, F_is1i, F_is1r, F_is1m, T_I, F_is2i, F_is2r, F_is2m, J_icne, T_dupI, T_dupR, T_add, T_putI, T_putZ, T_goto, T_ft, F_is3i, F_is3r, F_is3m, J_ifeq, F_il3, T_icle, F_il1, F_is4i, F_is4r, F_is4m, F_il4, T_icge, T_getR, F_il2, T_iast, F_inc4i, F_inc4r, F_inc4m, c220, c221, c222, c224, c265, ↓s220, ↓s222, ↓s224, ↓s265, z1, g, ↓s221 F hn, ↓reduceIte, TK, lt_run hn, le43, Int.le_refl, Int.lt_irrefl, Option.some.injEq, exists_eq_left', true_and, and_true, if_true, if_false, decide_eq_false_iff_not, decide_eq_true_eq, Nat.reduceAdd, Nat.reduceLeDiff, Nat.reduceLT, Int.reduceAdd, Int.reduceSub, Int.reduceMul, Int.reduceNeg, not_true_eq_false, not_false_eq_true]
    refine T_for (σ := Unit) (fun i _ => [.ref 704, .int (J p), .int (J d), .int (J k), .int (J i)]) (fun i _ h' => ∃ h2, h' = MS h2 w (-1) ∧ Ef Sdm h h2 ∧ Rz h2 704 42 736 (m + i) (xD D m d)) 0 k ?_ ?_ 0 () _ (by omega) (by omega) ⟨h, rfl, Ef.refl, by rw [Int.add_zero]; exact R.1, fun j j0 j1 => by rw [R.2 j j0 (by omega)]; unfold xD; rw [if_pos (by omega)]⟩
    · rintro i _ _ i0 i1 ⟨h2, rfl, e2, d2, d3⟩ ih
      have z2 : MS h2 w (-1) 704 42 = J (m + i) := by rw [MS_j (by decide)]; exact d2
      have z3 : sA (MS h2 w (-1)) 736 (m + i) (J d) 704 42 = J (m + i) := by rw [sA_o (by decide)]; exact z2
      rw [k267_6]
      simp +decide (maxSteps := 4000000) (disch := omega) only [k267_0, k267_1, k267_2, k267_3, k267_4, k267_5, k267_7, k267_r, k267_s, F_al0, J_ifne, T_ret, T_getI, F_is1i, F_is1r, F_is1m, T_I, F_is2i, F_is2r, F_is2m, J_icne, T_dupI, T_dupR, T_add, T_putI, T_putZ, T_goto, T_ft, F_is3i, F_is3r, F_is3m, J_ifeq, F_il3, T_icle, F_il1, F_is4i, F_is4r, F_is4m, F_il4, T_icge, T_getR, F_il2, T_iast, F_inc4i, F_inc4r, F_inc4m, c220, c221, c222, c224, c265, ↓s220, ↓s222, ↓s224, ↓s265, FM F, ln_736, z2, z3, ↓s221 F hn, show ¬ k ≤ i by omega, ↓reduceIte, TK, lt_run hn, le43, Int.le_refl, Int.lt_irrefl, Option.some.injEq, exists_eq_left', true_and, and_true, if_true, if_false, decide_eq_false_iff_not, decide_eq_true_eq, Nat.reduceAdd, Nat.reduceLeDiff, Nat.reduceLT, Int.reduceAdd, Int.reduceSub, Int.reduceMul, Int.reduceNeg, not_true_eq_false, not_false_eq_true]
      rw [MS_d (by decide), MS_f (by decide)]
      refine ih () _ ⟨_, rfl, (e2.sA (Or.inr rfl)).hI (Or.inl ⟨rfl, rfl⟩), ?_, fun j j0 j1 => ?_⟩
      · rw [hI_s, Int.add_assoc]
      · rw [gA_o (by decide)]
        by_cases e : j = m + i
        · rw [e, gs_s]
          unfold xD
          rw [if_neg (by omega)]
        · rw [gs_k (by omega) j0 e]
          exact d3 j j0 (by omega)
    · rintro _ _ ⟨h2, rfl, e2, d2, d3⟩
      rw [k267_6]
      simp +decide (maxSteps := 4000000) (disch := omega) only [k267_0, k267_1, k267_2, k267_3, k267_4, k267_5, k267_7, k267_r, k267_s, F_al0, J_ifne, T_ret, T_getI, F_is1i, F_is1r, F_is1m, T_I, F_is2i, F_is2r, F_is2m, J_icne, T_dupI, T_dupR, T_add, T_putI, T_putZ, T_goto, T_ft, F_is3i, F_is3r, F_is3m, J_ifeq, F_il3, T_icle, F_il1, F_is4i, F_is4r, F_is4m, F_il4, T_icge, T_getR, F_il2, T_iast, F_inc4i, F_inc4r, F_inc4m, c220, c221, c222, c224, c265, ↓s220, ↓s221, ↓s222, ↓s224, ↓s265, ↓reduceIte, TK, lt_run hn, le43, Int.le_refl, Int.lt_irrefl, Option.some.injEq, exists_eq_left', true_and, and_true, if_true, if_false, decide_eq_false_iff_not, decide_eq_true_eq, Nat.reduceAdd, Nat.reduceLeDiff, Nat.reduceLT, Int.reduceAdd, Int.reduceSub, Int.reduceMul, Int.reduceNeg, not_true_eq_false, not_false_eq_true]
      exact kk h2 w hw.1 hw.2 e2 ⟨m + k, by omega, d2⟩ (fun _ => ⟨rfl, d2, d3⟩)
  · rw [if_neg g] at kk
    have f1 : p ≠ -1 := by omega
    simp +decide (maxSteps := 4000000) (disch := omega) only [k267_0, k267_1, k267_2, k267_3, k267_4, k267_5, k267_7, k267_r, k267_s, F_al0, J_ifne, T_ret, T_getI, F_is1i, F_is1r, F_is1m, T_I, F_is2i, F_is2r, F_is2m, J_icne, T_dupI, T_dupR, T_add, T_putI, T_putZ, T_goto, T_ft, F_is3i, F_is3r, F_is3m, J_ifeq, F_il3, T_icle, F_il1, F_is4i, F_is4r, F_is4m, F_il4, T_icge, T_getR, F_il2, T_iast, F_inc4i, F_inc4r, F_inc4m, c220, c221, c222, c224, c265, ↓s220, ↓s222, ↓s265, z1, g, ↓s221 F hn, ↓s224 F hn, rf_y, ↓reduceIte, TK, lt_run hn, le43, Int.le_refl, Int.lt_irrefl, Option.some.injEq, exists_eq_left', true_and, and_true, if_true, if_false, decide_eq_false_iff_not, decide_eq_true_eq, Nat.reduceAdd, Nat.reduceLeDiff, Nat.reduceLT, Int.reduceAdd, Int.reduceSub, Int.reduceMul, Int.reduceNeg, not_true_eq_false, not_false_eq_true]
    rw [k267_6]
    simp +decide (maxSteps := 4000000) (disch := omega) only [k267_0, k267_1, k267_2, k267_3, k267_4, k267_5, k267_7, k267_r, k267_s, F_al0, J_ifne, T_ret, T_getI, F_is1i, F_is1r, F_is1m, T_I, F_is2i, F_is2r, F_is2m, J_icne, T_dupI, T_dupR, T_add, T_putI, T_putZ, T_goto, T_ft, F_is3i, F_is3r, F_is3m, J_ifeq, F_il3, T_icle, F_il1, F_is4i, F_is4r, F_is4m, F_il4, T_icge, T_getR, F_il2, T_iast, F_inc4i, F_inc4r, F_inc4m, c220, c221, c222, c224, c265, ↓s220, ↓s222, ↓s224, ↓s265, ↓s221 F hn, f1, show ¬ k ≤ 0 by omega, ↓reduceIte, TK, lt_run hn, le43, Int.le_refl, Int.lt_irrefl, Option.some.injEq, exists_eq_left', true_and, and_true, if_true, if_false, decide_eq_false_iff_not, decide_eq_true_eq, Nat.reduceAdd, Nat.reduceLeDiff, Nat.reduceLT, Int.reduceAdd, Int.reduceSub, Int.reduceMul, Int.reduceNeg, not_true_eq_false, not_false_eq_true]
    exact kk h w hw.1 hw.2 Ef.refl ⟨m, hm, R.1⟩ (fun q => absurd q f1)
theorem w267 (F : FH hr) (hn : 775 ≤ n) (T : TpM h t b) (R : Rz h 704 42 736 m D) (hm : 0 ≤ m ∧ m ≤ 120) (hp : 0 ≤ p ∧ p ≤ 1650) (kk : Im hr n Q h (itq b t m p D)) : Sp E 267 [.ref 704] (MS h p (-1)) hr n Q := by
  have t1 := T.1
  have bad : ∀ f w d, (0 ≤ f ∧ f ≤ 1700) → (0 ≤ w ∧ w ≤ 1700) → Q (none, MS h w f, hr, n) → Tm E 267 (a_bl 267 3) [.ref 704, .int (J p), .int (J d), a_mk, a_mk] [] (MS h w f) hr n Q := fun f w d f0 w0 q => by
    have f1 : ¬ f = -1 := by omega
    have g3 := e267f (E := E) (p := p) (d := d) (k := 1) F hn (by decide) f0 q
    rw [k267_3]
    simp +decide (maxSteps := 4000000) (disch := omega) only [k267_0, k267_1, k267_2, k267_3, k267_5, k267_7, k267_r, k267_s, F_al0, J_ifne, T_ret, T_getI, F_is1i, F_is1r, F_is1m, T_I, F_is2i, F_is2r, F_is2m, J_icne, T_dupI, T_dupR, T_add, T_putI, T_putZ, T_goto, T_ft, F_is3i, F_is3r, F_is3m, J_ifeq, F_il3, T_icle, F_il1, F_is4i, F_is4r, F_is4m, F_il4, T_icge, T_getR, F_il2, T_iast, F_inc4i, F_inc4r, F_inc4m, c220, c221, c222, c224, c265, ↓s221, ↓s222, ↓s224, ↓s265 F hn T, f1, ↓reduceIte, TK, lt_run hn, le43, Int.le_refl, Int.lt_irrefl, Option.some.injEq, exists_eq_left', true_and, and_true, if_true, if_false, decide_eq_false_iff_not, decide_eq_true_eq, Nat.reduceAdd, Nat.reduceLeDiff, Nat.reduceLT, Int.reduceAdd, Int.reduceSub, Int.reduceMul, Int.reduceNeg, not_true_eq_false, not_false_eq_true]
    exact g3
  have sec : ∀ w d, (p < w ∧ w ≤ 1651) → (-1 ≤ d ∧ d ≤ 15) → Im hr n Q h (it2 b t m p D d w) → Tm E 267 (a_bl 267 3) [.ref 704, .int (J p), .int (J d), a_mk, a_mk] [] (MS h w (-1)) hr n Q := fun w d w0 d0 q => by
    unfold it2 at q
    rw [k267_3]
    by_cases g : bt b t w = 42
    · rw [if_pos g] at q
      have nb := num_b (t := t) (f := -1) T.2.1 T.1 1 99 (p := w + 1) (by omega) (Or.inl rfl)
      have nbM := numM_b (t := t) (f := -1) T.2.1 T.1 false (lo := 1) (hi := 99) (by decide) (p := w + 1) (by omega) (Or.inl rfl)
      have nr := num_rel (b := b) (t := t) T.2.1 (lo := 1) (hi := 99) (p := w + 1) (by omega)
      by_cases g2 : (numC b t 1 99 (w + 1) (-1)).2.2 = -1
      · obtain ⟨q0, q1, q2, q3⟩ := nr.2 g2
        rw [if_pos g2] at q
        have g3 := e267 (E := E) F hn R hm q1 (by omega) (by omega) d0 q
        simp +decide (maxSteps := 4000000) (disch := omega) only [k267_0, k267_1, k267_2, k267_3, k267_5, k267_7, k267_r, k267_s, F_al0, J_ifne, T_ret, T_getI, F_is1i, F_is1r, F_is1m, T_I, F_is2i, F_is2r, F_is2m, J_icne, T_dupI, T_dupR, T_add, T_putI, T_putZ, T_goto, T_ft, F_is3i, F_is3r, F_is3m, J_ifeq, F_il3, T_icle, F_il1, F_is4i, F_is4r, F_is4m, F_il4, T_icge, T_getR, F_il2, T_iast, F_inc4i, F_inc4r, F_inc4m, c220, c221, c222, c224, c265, ↓s221, ↓s222, ↓s224, ↓s265 F hn T, x220 F hn T, MX, g, ↓reduceIte, TK, lt_run hn, le43, Int.le_refl, Int.lt_irrefl, Option.some.injEq, exists_eq_left', true_and, and_true, if_true, if_false, decide_eq_false_iff_not, decide_eq_true_eq, Nat.reduceAdd, Nat.reduceLeDiff, Nat.reduceLT, Int.reduceAdd, Int.reduceSub, Int.reduceMul, Int.reduceNeg, not_true_eq_false, not_false_eq_true]
        rw [q0, g2]
        exact g3
      · rw [if_neg g2] at q
        rw [← nr.1] at g2 q
        have g3 := e267f (E := E) (p := p) (d := d) (w := (numM b t false 1 99 (w + 1) (-1)).2.1) F hn nbM.2.2 (nbM.2.1.resolve_left g2) (q h _ (by omega) (by omega) Ef.refl ⟨m, hm, R.1⟩ (fun z => absurd z g2))
        simp +decide (maxSteps := 4000000) (disch := omega) only [k267_0, k267_1, k267_2, k267_3, k267_5, k267_7, k267_r, k267_s, F_al0, J_ifne, T_ret, T_getI, F_is1i, F_is1r, F_is1m, T_I, F_is2i, F_is2r, F_is2m, J_icne, T_dupI, T_dupR, T_add, T_putI, T_putZ, T_goto, T_ft, F_is3i, F_is3r, F_is3m, J_ifeq, F_il3, T_icle, F_il1, F_is4i, F_is4r, F_is4m, F_il4, T_icge, T_getR, F_il2, T_iast, F_inc4i, F_inc4r, F_inc4m, c220, c221, c222, c224, c265, ↓s221, ↓s222, ↓s224, ↓s265 F hn T, x220 F hn T, MX, g, ↓reduceIte, TK, lt_run hn, le43, Int.le_refl, Int.lt_irrefl, Option.some.injEq, exists_eq_left', true_and, and_true, if_true, if_false, decide_eq_false_iff_not, decide_eq_true_eq, Nat.reduceAdd, Nat.reduceLeDiff, Nat.reduceLT, Int.reduceAdd, Int.reduceSub, Int.reduceMul, Int.reduceNeg, not_true_eq_false, not_false_eq_true]
        exact g3
    · rw [if_neg g] at q
      have g3 := e267 (E := E) F hn R hm (by decide) (by omega) (by omega) d0 q
      simp +decide (maxSteps := 4000000) (disch := omega) only [k267_0, k267_1, k267_2, k267_3, k267_5, k267_7, k267_r, k267_s, F_al0, J_ifne, T_ret, T_getI, F_is1i, F_is1r, F_is1m, T_I, F_is2i, F_is2r, F_is2m, J_icne, T_dupI, T_dupR, T_add, T_putI, T_putZ, T_goto, T_ft, F_is3i, F_is3r, F_is3m, J_ifeq, F_il3, T_icle, F_il1, F_is4i, F_is4r, F_is4m, F_il4, T_icge, T_getR, F_il2, T_iast, F_inc4i, F_inc4r, F_inc4m, c220, c221, c222, c224, c265, ↓s221, ↓s222, ↓s224, ↓s265 F hn T, g, ↓reduceIte, TK, lt_run hn, le43, Int.le_refl, Int.lt_irrefl, Option.some.injEq, exists_eq_left', true_and, and_true, if_true, if_false, decide_eq_false_iff_not, decide_eq_true_eq, Nat.reduceAdd, Nat.reduceLeDiff, Nat.reduceLT, Int.reduceAdd, Int.reduceSub, Int.reduceMul, Int.reduceNeg, not_true_eq_false, not_false_eq_true]
      exact g3
  unfold itq at kk
  by_cases g : bt b t p = 45
  · rw [if_pos g] at kk
    have g3 := sec (p + 1) (-1) (by omega) (by decide) kk
    simp +decide (maxSteps := 4000000) (disch := omega) only [k267_0, k267_1, k267_2, k267_4, k267_5, k267_7, k267_r, k267_s, F_al0, J_ifne, T_ret, T_getI, F_is1i, F_is1r, F_is1m, T_I, F_is2i, F_is2r, F_is2m, J_icne, T_dupI, T_dupR, T_add, T_putI, T_putZ, T_goto, T_ft, F_is3i, F_is3r, F_is3m, J_ifeq, F_il3, T_icle, F_il1, F_is4i, F_is4r, F_is4m, F_il4, T_icge, T_getR, F_il2, T_iast, F_inc4i, F_inc4r, F_inc4m, c220, c221, c222, c224, c265, ↓s224, ↓s265, ↓s221 F hn, ↓s222 F hn T, MX, g, ↓reduceIte, TK, lt_run hn, le43, Int.le_refl, Int.lt_irrefl, Option.some.injEq, exists_eq_left', true_and, and_true, if_true, if_false, decide_eq_false_iff_not, decide_eq_true_eq, Nat.reduceAdd, Nat.reduceLeDiff, Nat.reduceLT, Int.reduceAdd, Int.reduceSub, Int.reduceMul, Int.reduceNeg, not_true_eq_false, not_false_eq_true]
    exact g3
  · rw [if_neg g] at kk
    have hbt := bt_r (t := t) T.2.1 p
    have nb := num_b (t := t) (f := -1) T.2.1 T.1 0 15 (p := p) (by omega) (Or.inl rfl)
    have nbM := numM_b (t := t) (f := -1) T.2.1 T.1 false (lo := 0) (hi := 15) (by decide) (p := p) (by omega) (Or.inl rfl)
    have nr := num_rel (b := b) (t := t) T.2.1 (lo := 0) (hi := 15) (p := p) (by omega)
    by_cases g2 : (numC b t 0 15 p (-1)).2.2 = -1
    · obtain ⟨q0, q1, q2, q3⟩ := nr.2 g2
      rw [if_pos g2] at kk
      have g3 := sec _ _ (by omega) (by omega) kk
      simp +decide (maxSteps := 4000000) (disch := omega) only [k267_0, k267_1, k267_2, k267_4, k267_5, k267_7, k267_r, k267_s, F_al0, J_ifne, T_ret, T_getI, F_is1i, F_is1r, F_is1m, T_I, F_is2i, F_is2r, F_is2m, J_icne, T_dupI, T_dupR, T_add, T_putI, T_putZ, T_goto, T_ft, F_is3i, F_is3r, F_is3m, J_ifeq, F_il3, T_icle, F_il1, F_is4i, F_is4r, F_is4m, F_il4, T_icge, T_getR, F_il2, T_iast, F_inc4i, F_inc4r, F_inc4m, c220, c221, c222, c224, c265, ↓s224, ↓s265, ↓s221 F hn, ↓s222 F hn T, x220 F hn T, MX, g, ↓reduceIte, TK, lt_run hn, le43, Int.le_refl, Int.lt_irrefl, Option.some.injEq, exists_eq_left', true_and, and_true, if_true, if_false, decide_eq_false_iff_not, decide_eq_true_eq, Nat.reduceAdd, Nat.reduceLeDiff, Nat.reduceLT, Int.reduceAdd, Int.reduceSub, Int.reduceMul, Int.reduceNeg, not_true_eq_false, not_false_eq_true]
      rw [q0, g2]
      exact g3
    · rw [if_neg g2] at kk
      rw [← nr.1] at g2 kk
      have g3 := bad _ (numM b t false 0 15 p (-1)).2.1 (numM b t false 0 15 p (-1)).1 (nbM.2.1.resolve_left g2) (by omega) (kk h _ (by omega) (by omega) Ef.refl ⟨m, hm, R.1⟩ (fun z => absurd z g2))
      simp +decide (maxSteps := 4000000) (disch := omega) only [k267_0, k267_1, k267_2, k267_4, k267_5, k267_7, k267_r, k267_s, F_al0, J_ifne, T_ret, T_getI, F_is1i, F_is1r, F_is1m, T_I, F_is2i, F_is2r, F_is2m, J_icne, T_dupI, T_dupR, T_add, T_putI, T_putZ, T_goto, T_ft, F_is3i, F_is3r, F_is3m, J_ifeq, F_il3, T_icle, F_il1, F_is4i, F_is4r, F_is4m, F_il4, T_icge, T_getR, F_il2, T_iast, F_inc4i, F_inc4r, F_inc4m, c220, c221, c222, c224, c265, ↓s224, ↓s265, ↓s221 F hn, ↓s222 F hn T, x220 F hn T, MX, g, ↓reduceIte, TK, lt_run hn, le43, Int.le_refl, Int.lt_irrefl, Option.some.injEq, exists_eq_left', true_and, and_true, if_true, if_false, decide_eq_false_iff_not, decide_eq_true_eq, Nat.reduceAdd, Nat.reduceLeDiff, Nat.reduceLT, Int.reduceAdd, Int.reduceSub, Int.reduceMul, Int.reduceNeg, not_true_eq_false, not_false_eq_true]
      exact g3
end IT
