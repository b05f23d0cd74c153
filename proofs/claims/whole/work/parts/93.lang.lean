/-! language: groups -/
abbrev smb (x : Int) : Prop := 97 ≤ x ∧ x ≤ 122
def sme (b : Int → Int) (t : Int) : Nat → Int → Int
  | 0, p => p
  | q + 1, p => if smb (bt b t p) then sme b t q (p + 1) else p
def wr (b : Int → Int) (v p : Int) : Nat → (Int → Int) → (Int → Int)
  | 0, D => D
  | k + 1, D => upd1 (wr b v p k D) (b (p + k) - 97) v
def grp (b : Int → Int) (t p : Int) (D : Int → Int) : Int × Int × (Int → Int) :=
  if sme b t 1601 p = p then (p, 0, D) else if bt b t (sme b t 1601 p) = 61 then (if 48 ≤ bt b t (sme b t 1601 p + 1) ∧ bt b t (sme b t 1601 p + 1) ≤ 55 then (-1, sme b t 1601 p + 2, wr b (bt b t (sme b t 1601 p + 1) - 48) p (sme b t 1601 p - p).toNat D) else (sme b t 1601 p + 1, 0, D)) else (sme b t 1601 p, 0, D)
def R7 (D : Int → Int) : Prop := ∀ j, 0 ≤ D j ∧ D j ≤ 7
theorem wr_7 {b D : Int → Int} {v p : Int} (h : R7 D) (hv : 0 ≤ v ∧ v ≤ 7) : ∀ k, R7 (wr b v p k D) := by
  intro k
  induction k with
  | zero => exact h
  | succ k ih =>
    intro j
    unfold wr upd1
    split
    · exact hv
    · exact ih j
section LG
variable {E : AEn} {h h' : AHi} {hr : AHr} {n : Nat} {Q : ARs → Prop} {t p f m k w e : Int} {b D : Int → Int}
theorem sme_b (ht : 0 ≤ t ∧ t ≤ 1600) : ∀ (q : Nat) (p : Int), 0 ≤ p → p ≤ 1700 → p ≤ sme b t q p ∧ (sme b t q p = p ∨ sme b t q p ≤ t) ∧ ∀ j, p ≤ j → j < sme b t q p → smb (bt b t j) := by
  intro q
  induction q with
  | zero => intro p p0 p1; unfold sme; exact ⟨by omega, Or.inl rfl, fun j j0 j1 => by omega⟩
  | succ q ih =>
    intro p p0 p1
    unfold sme
    by_cases g : smb (bt b t p)
    · have hin := bt_in (b := b) (t := t) (i := p) (by unfold smb at g; omega)
      obtain ⟨a1, a2, a3⟩ := ih (p + 1) (by omega) (by omega)
      rw [if_pos g]
      refine ⟨by omega, by omega, fun j j0 j1 => ?_⟩
      rcases (show j = p ∨ p + 1 ≤ j by omega) with z | z
      · rw [z]
        exact g
      · exact a3 j z j1
    · rw [if_neg g]
      exact ⟨by omega, Or.inl rfl, fun j j0 j1 => by omega⟩
theorem sme_u (h2 : ¬ smb (bt b t e)) : ∀ (q : Nat) (p : Int), p ≤ e → e ≤ p + q → (∀ j, p ≤ j → j < e → smb (bt b t j)) → sme b t q p = e := by
  intro q
  induction q with
  | zero => intro p p0 p1 _; unfold sme; omega
  | succ q ih =>
    intro p p0 p1 h1
    unfold sme
    rcases (show p = e ∨ p < e by omega) with z | z
    · rw [z, if_neg h2]
    · rw [if_pos (h1 p (by omega) z)]
      exact ih (p + 1) (by omega) (by omega) (fun j j0 j1 => h1 j (by omega) j1)
theorem grp_b (ht : 0 ≤ t ∧ t ≤ 1600) (hb : ∀ i, 0 ≤ b i ∧ b i ≤ 255) (hp : 0 ≤ p ∧ p ≤ 1650) (hD : R7 D) : ((grp b t p D).1 = -1 ∨ 0 ≤ (grp b t p D).1 ∧ (grp b t p D).1 ≤ 1700) ∧ ((grp b t p D).1 = -1 → (p + 3 ≤ (grp b t p D).2.1 ∧ (grp b t p D).2.1 ≤ t) ∧ R7 (grp b t p D).2.2) := by
  obtain ⟨a1, a2, a3⟩ := sme_b (b := b) ht 1601 p hp.1 (by omega)
  unfold grp
  generalize sme b t 1601 p = e at *
  by_cases g0 : e = p
  · rw [if_pos g0]
    exact ⟨Or.inr (by dsimp only; omega), fun z => by dsimp only at z; omega⟩
  rw [if_neg g0]
  by_cases g1 : bt b t e = 61
  · rw [if_pos g1]
    by_cases g2 : 48 ≤ bt b t (e + 1) ∧ bt b t (e + 1) ≤ 55
    · have hin := bt_in (b := b) (t := t) (i := e + 1) (by omega)
      rw [if_pos g2]
      exact ⟨Or.inl rfl, fun _ => ⟨by dsimp only; omega, wr_7 hD (by omega) _⟩⟩
    · rw [if_neg g2]
      exact ⟨Or.inr (by dsimp only; omega), fun z => by dsimp only at z; omega⟩
  · rw [if_neg g1]
    exact ⟨Or.inr (by dsimp only; omega), fun z => by dsimp only at z; omega⟩
theorem smb_in (g : smb (bt b t p)) : (0 ≤ p ∧ p < t) ∧ bt b t p = b p ∧ 97 ≤ b p ∧ b p ≤ 122 := by
  unfold smb at g
  have hin := bt_in (b := b) (t := t) (i := p) (by omega)
  have e : bt b t p = b p := if_pos hin
  rw [e] at g
  exact ⟨hin, e, g⟩
theorem Rk_w {a : Nat} {v c : Int} {D' : Int → Int} (R : Rk h a 26 D') (h0 : 0 ≤ c ∧ c < 26) : Rk (sA h a c (J v)) a 26 (upd1 D' c v) := fun j j0 j1 => by
  unfold upd1
  by_cases e : j = c
  · rw [e, gs_s, if_pos rfl]
  · rw [gs_k h0.1 j0 e, if_neg e]
    exact R j j0 j1
theorem w70 (F : FH hr) (hn : 775 ≤ n) (T : TpC h t b) (R : Rk h 107 26 D) (hD : R7 D) (hp : 0 ≤ p ∧ p ≤ 1600) (kk : ∀ h' p', 0 ≤ p' → p' ≤ 1700 → Ef (fun a _ => a = 107) h h' → ((grp b t p D).1 = -1 → p' = (grp b t p D).2.1 ∧ Rk h' 107 26 (grp b t p D).2.2) → Q (none, RS h' p' (grp b t p D).1, hr, n)) : Sp E 70 [.ref 105, .ref 44] (RS h p (-1)) hr n Q := by
  have t1 := T.1
  simp +decide (maxSteps := 4000000) (disch := omega) only [k70_0, k70_2, k70_3, k70_4, k70_6, k70_r, k70_s, F_al1, T_getI, F_is2i, F_is2r, F_is2m, T_I, F_is3i, F_is3r, F_is3m, T_ft, F_il3, T_icge, J_ifeq, T_dupI, T_dupR, T_add, T_putI, T_putZ, F_inc3i, F_inc3r, F_inc3m, T_goto, F_il2, J_icne, T_sub, F_is4i, F_is4r, F_is4m, J_ifne, F_is5i, F_is5r, F_is5m, F_il5, F_al0, T_getR, F_il4, T_iast, F_inc5i, F_inc5r, F_inc5m, T_ret, c12, c16, c17, c18, c19, c22, ↓s12, ↓s16, ↓s17, ↓s18, ↓s19, ↓s22, RX, kd_44, ↓reduceIte, TK, lt_run hn, le43, Int.le_refl, Int.lt_irrefl, Option.some.injEq, exists_eq_left', true_and, and_true, if_true, if_false, decide_eq_false_iff_not, decide_eq_true_eq, Nat.reduceAdd, Nat.reduceLeDiff, Nat.reduceLT, Int.reduceAdd, Int.reduceSub, Int.reduceMul, Int.reduceNeg, not_true_eq_false, not_false_eq_true]
  refine T_wh (σ := Int) (fun k => [.ref 105, .ref 44, .int (J p), .int (J k), a_mk, a_mk]) (fun k h' => h' = RS h (p + k) (-1) ∧ (0 ≤ k ∧ k ≤ 1600) ∧ ∀ j, p ≤ j → j < p + k → smb (bt b t j)) (fun k _ => (1601 - k).toNat) ?_ 0 _ ⟨by rw [Int.add_zero], by omega, fun j j0 j1 => by omega⟩
  rintro k _ ⟨rfl, ⟨k0, k1⟩, k2⟩ ih
  have bk := bt_r (t := t) T.2.1 (p + k)
  by_cases g : smb (bt b t (p + k))
  · have hin := smb_in g
    have g' : 97 ≤ bt b t (p + k) ∧ bt b t (p + k) ≤ 122 := g
    have fin := ih (k + 1) (RS h (p + (k + 1)) (-1)) ⟨rfl, by omega, fun j j0 j1 => by
      rcases (show j < p + k ∨ j = p + k by omega) with z | z
      · exact k2 j j0 z
      · rw [z]
        exact g⟩ (by omega)
    rw [← Int.add_assoc] at fin
    rw [k70_1]
    simp +decide (maxSteps := 4000000) (disch := omega) only [k70_0, k70_2, k70_3, k70_4, k70_6, k70_r, k70_s, F_al1, T_getI, F_is2i, F_is2r, F_is2m, T_I, F_is3i, F_is3r, F_is3m, T_ft, F_il3, T_icge, J_ifeq, T_dupI, T_dupR, T_add, T_putI, T_putZ, F_inc3i, F_inc3r, F_inc3m, T_goto, F_il2, J_icne, T_sub, F_is4i, F_is4r, F_is4m, J_ifne, F_is5i, F_is5r, F_is5m, F_il5, F_al0, T_getR, F_il4, T_iast, F_inc5i, F_inc5r, F_inc5m, T_ret, c12, c16, c17, c18, c19, c22, ↓s12, ↓s16, ↓s18, ↓s19, ↓s22, RX, ↓s17 F hn T, g', kd_44, show ¬ 1600 ≤ k by omega, ↓reduceIte, TK, lt_run hn, le43, Int.le_refl, Int.lt_irrefl, Option.some.injEq, exists_eq_left', true_and, and_true, if_true, if_false, decide_eq_false_iff_not, decide_eq_true_eq, Nat.reduceAdd, Nat.reduceLeDiff, Nat.reduceLT, Int.reduceAdd, Int.reduceSub, Int.reduceMul, Int.reduceNeg, not_true_eq_false, not_false_eq_true]
    exact fin
  have es : sme b t 1601 p = p + k := sme_u g 1601 p (by omega) (by omega) k2
  unfold grp at kk
  rw [es] at kk
  have g' : ¬ (97 ≤ bt b t (p + k) ∧ bt b t (p + k) ≤ 122) := g
  have enter : Tm E 70 (a_bl 70 2) [.ref 105, .ref 44, .int (J p), .int (J k), a_mk, a_mk] [] (RS h (p + k) (-1)) hr n Q → Tm E 70 (a_bl 70 1) [.ref 105, .ref 44, .int (J p), .int (J k), a_mk, a_mk] [] (RS h (p + k) (-1)) hr n Q := fun q => by
    by_cases z : 1600 ≤ k
    · rw [k70_1]
      simp +decide (maxSteps := 4000000) (disch := omega) only [k70_0, k70_3, k70_4, k70_6, k70_r, k70_s, F_al1, T_getI, F_is2i, F_is2r, F_is2m, T_I, F_is3i, F_is3r, F_is3m, T_ft, F_il3, T_icge, J_ifeq, T_dupI, T_dupR, T_add, T_putI, T_putZ, F_inc3i, F_inc3r, F_inc3m, T_goto, F_il2, J_icne, T_sub, F_is4i, F_is4r, F_is4m, J_ifne, F_is5i, F_is5r, F_is5m, F_il5, F_al0, T_getR, F_il4, T_iast, F_inc5i, F_inc5r, F_inc5m, T_ret, c12, c16, c17, c18, c19, c22, ↓s12, ↓s16, ↓s17, ↓s18, ↓s19, ↓s22, z, ↓reduceIte, TK, lt_run hn, le43, Int.le_refl, Int.lt_irrefl, Option.some.injEq, exists_eq_left', true_and, and_true, if_true, if_false, decide_eq_false_iff_not, decide_eq_true_eq, Nat.reduceAdd, Nat.reduceLeDiff, Nat.reduceLT, Int.reduceAdd, Int.reduceSub, Int.reduceMul, Int.reduceNeg, not_true_eq_false, not_false_eq_true]
      exact q
    · rw [k70_1]
      simp +decide (maxSteps := 4000000) (disch := omega) only [k70_0, k70_3, k70_4, k70_6, k70_r, k70_s, F_al1, T_getI, F_is2i, F_is2r, F_is2m, T_I, F_is3i, F_is3r, F_is3m, T_ft, F_il3, T_icge, J_ifeq, T_dupI, T_dupR, T_add, T_putI, T_putZ, F_inc3i, F_inc3r, F_inc3m, T_goto, F_il2, J_icne, T_sub, F_is4i, F_is4r, F_is4m, J_ifne, F_is5i, F_is5r, F_is5m, F_il5, F_al0, T_getR, F_il4, T_iast, F_inc5i, F_inc5r, F_inc5m, T_ret, c12, c16, c17, c18, c19, c22, ↓s12, ↓s16, ↓s18, ↓s19, ↓s22, ↓s17 F hn T, g', z, kd_44, ↓reduceIte, TK, lt_run hn, le43, Int.le_refl, Int.lt_irrefl, Option.some.injEq, exists_eq_left', true_and, and_true, if_true, if_false, decide_eq_false_iff_not, decide_eq_true_eq, Nat.reduceAdd, Nat.reduceLeDiff, Nat.reduceLT, Int.reduceAdd, Int.reduceSub, Int.reduceMul, Int.reduceNeg, not_true_eq_false, not_false_eq_true]
      exact q
  refine enter ?_
  have lpf : ∀ (w f : Int) (x y z : Int32), 0 ≤ w → w ≤ 1690 → 0 ≤ f → f ≤ 1700 → Q (none, RS h (w + 1) f, hr, n) → Tm E 70 (a_bl 70 5) [.ref 105, .ref 44, .int x, .int y, .int z, .int x] [] (RS h w f) hr n Q := fun w f x y z w0 w1 f0 f1 q => by
    have f2 : f ≠ -1 := by omega
    rw [k70_5]
    simp +decide (maxSteps := 4000000) (disch := omega) only [k70_0, k70_2, k70_3, k70_4, k70_6, k70_r, k70_s, F_al1, T_getI, F_is2i, F_is2r, F_is2m, T_I, F_is3i, F_is3r, F_is3m, T_ft, F_il3, T_icge, J_ifeq, T_dupI, T_dupR, T_add, T_putI, T_putZ, F_inc3i, F_inc3r, F_inc3m, T_goto, F_il2, J_icne, T_sub, F_is4i, F_is4r, F_is4m, J_ifne, F_is5i, F_is5r, F_is5m, F_il5, F_al0, T_getR, F_il4, T_iast, F_inc5i, F_inc5r, F_inc5m, T_ret, c12, c16, c17, c18, c19, c22, ↓s12, ↓s17, ↓s18, ↓s19, ↓s22, RX, ↓s16 F hn, f2, kd_44, ↓reduceIte, TK, lt_run hn, le43, Int.le_refl, Int.lt_irrefl, Option.some.injEq, exists_eq_left', true_and, and_true, if_true, if_false, decide_eq_false_iff_not, decide_eq_true_eq, Nat.reduceAdd, Nat.reduceLeDiff, Nat.reduceLT, Int.reduceAdd, Int.reduceSub, Int.reduceMul, Int.reduceNeg, not_true_eq_false, not_false_eq_true]
    first | exact q | (split <;> exact q)
  rw [k70_2]
  by_cases g0 : p + k = p
  · rw [if_pos g0] at kk
    have f1 : p ≠ -1 := by omega
    have q := kk h (p + k + 1) (by omega) (by omega) Ef.refl (fun z => absurd z f1)
    by_cases g3 : 48 ≤ bt b t (p + k) ∧ bt b t (p + k) ≤ 55
    · simp +decide (maxSteps := 4000000) (disch := omega) only [k70_0, k70_2, k70_3, k70_4, k70_6, k70_r, k70_s, F_al1, T_getI, F_is2i, F_is2r, F_is2m, T_I, F_is3i, F_is3r, F_is3m, T_ft, F_il3, T_icge, J_ifeq, T_dupI, T_dupR, T_add, T_putI, T_putZ, F_inc3i, F_inc3r, F_inc3m, T_goto, F_il2, J_icne, T_sub, F_is4i, F_is4r, F_is4m, J_ifne, F_is5i, F_is5r, F_is5m, F_il5, F_al0, T_getR, F_il4, T_iast, F_inc5i, F_inc5r, F_inc5m, T_ret, c12, c16, c17, c18, c19, c22, ↓s12, ↓s16, RX, ↓s18 F hn, ↓s19 F hn T, ↓s22 F hn T, ↓s17 F hn T, g0, g3, f1, rf_y, rf_n f1, false_and, kd_44, ↓reduceIte, TK, lt_run hn, le43, Int.le_refl, Int.lt_irrefl, Option.some.injEq, exists_eq_left', true_and, and_true, if_true, if_false, decide_eq_false_iff_not, decide_eq_true_eq, Nat.reduceAdd, Nat.reduceLeDiff, Nat.reduceLT, Int.reduceAdd, Int.reduceSub, Int.reduceMul, Int.reduceNeg, not_true_eq_false, not_false_eq_true]
      rw [g0] at q g3
      try simp +decide (maxSteps := 4000000) (disch := omega) only [k70_0, k70_2, k70_3, k70_4, k70_6, k70_r, k70_s, F_al1, T_getI, F_is2i, F_is2r, F_is2m, T_I, F_is3i, F_is3r, F_is3m, T_ft, F_il3, T_icge, J_ifeq, T_dupI, T_dupR, T_add, T_putI, T_putZ, F_inc3i, F_inc3r, F_inc3m, T_goto, F_il2, J_icne, T_sub, F_is4i, F_is4r, F_is4m, J_ifne, F_is5i, F_is5r, F_is5m, F_il5, F_al0, T_getR, F_il4, T_iast, F_inc5i, F_inc5r, F_inc5m, T_ret, c12, c16, c17, c18, c19, c22, ↓s12, ↓s16, ↓s17, ↓s18, ↓s19, ↓s22, RX, g3, ↓reduceIte, TK, lt_run hn, le43, Int.le_refl, Int.lt_irrefl, Option.some.injEq, exists_eq_left', true_and, and_true, if_true, if_false, decide_eq_false_iff_not, decide_eq_true_eq, Nat.reduceAdd, Nat.reduceLeDiff, Nat.reduceLT, Int.reduceAdd, Int.reduceSub, Int.reduceMul, Int.reduceNeg, not_true_eq_false, not_false_eq_true]
      exact lpf _ _ _ _ _ (by omega) (by omega) (by omega) (by omega) q
    · simp +decide (maxSteps := 4000000) (disch := omega) only [k70_0, k70_2, k70_3, k70_4, k70_6, k70_r, k70_s, F_al1, T_getI, F_is2i, F_is2r, F_is2m, T_I, F_is3i, F_is3r, F_is3m, T_ft, F_il3, T_icge, J_ifeq, T_dupI, T_dupR, T_add, T_putI, T_putZ, F_inc3i, F_inc3r, F_inc3m, T_goto, F_il2, J_icne, T_sub, F_is4i, F_is4r, F_is4m, J_ifne, F_is5i, F_is5r, F_is5m, F_il5, F_al0, T_getR, F_il4, T_iast, F_inc5i, F_inc5r, F_inc5m, T_ret, c12, c16, c17, c18, c19, c22, ↓s12, ↓s16, RX, ↓s18 F hn, ↓s19 F hn T, ↓s22 F hn T, ↓s17 F hn T, g0, g3, f1, rf_y, rf_n f1, false_and, kd_44, ↓reduceIte, TK, lt_run hn, le43, Int.le_refl, Int.lt_irrefl, Option.some.injEq, exists_eq_left', true_and, and_true, if_true, if_false, decide_eq_false_iff_not, decide_eq_true_eq, Nat.reduceAdd, Nat.reduceLeDiff, Nat.reduceLT, Int.reduceAdd, Int.reduceSub, Int.reduceMul, Int.reduceNeg, not_true_eq_false, not_false_eq_true]
      rw [g0] at q g3
      try simp +decide (maxSteps := 4000000) (disch := omega) only [k70_0, k70_2, k70_3, k70_4, k70_6, k70_r, k70_s, F_al1, T_getI, F_is2i, F_is2r, F_is2m, T_I, F_is3i, F_is3r, F_is3m, T_ft, F_il3, T_icge, J_ifeq, T_dupI, T_dupR, T_add, T_putI, T_putZ, F_inc3i, F_inc3r, F_inc3m, T_goto, F_il2, J_icne, T_sub, F_is4i, F_is4r, F_is4m, J_ifne, F_is5i, F_is5r, F_is5m, F_il5, F_al0, T_getR, F_il4, T_iast, F_inc5i, F_inc5r, F_inc5m, T_ret, c12, c16, c17, c18, c19, c22, ↓s12, ↓s16, ↓s17, ↓s19, ↓s22, RX, g3, ↓s18 F hn, rf_n f1, kd_44, ↓reduceIte, TK, lt_run hn, le43, Int.le_refl, Int.lt_irrefl, Option.some.injEq, exists_eq_left', true_and, and_true, if_true, if_false, decide_eq_false_iff_not, decide_eq_true_eq, Nat.reduceAdd, Nat.reduceLeDiff, Nat.reduceLT, Int.reduceAdd, Int.reduceSub, Int.reduceMul, Int.reduceNeg, not_true_eq_false, not_false_eq_true]
      exact lpf _ _ _ _ _ (by omega) (by omega) (by omega) (by omega) q
  rw [if_neg g0] at kk
  by_cases g1 : bt b t (p + k) = 61
  case neg =>
    rw [if_neg g1] at kk
    have f1 : p + k ≠ -1 := by omega
    have hk : p + k ≤ t := by
      have := smb_in (k2 (p + k - 1) (by omega) (by omega))
      omega
    have q := kk h (p + k + 1) (by omega) (by omega) Ef.refl (fun z => absurd z f1)
    by_cases g3 : 48 ≤ bt b t (p + k) ∧ bt b t (p + k) ≤ 55
    · simp +decide (maxSteps := 4000000) (disch := omega) only [k70_0, k70_2, k70_3, k70_4, k70_6, k70_r, k70_s, F_al1, T_getI, F_is2i, F_is2r, F_is2m, T_I, F_is3i, F_is3r, F_is3m, T_ft, F_il3, T_icge, J_ifeq, T_dupI, T_dupR, T_add, T_putI, T_putZ, F_inc3i, F_inc3r, F_inc3m, T_goto, F_il2, J_icne, T_sub, F_is4i, F_is4r, F_is4m, J_ifne, F_is5i, F_is5r, F_is5m, F_il5, F_al0, T_getR, F_il4, T_iast, F_inc5i, F_inc5r, F_inc5m, T_ret, c12, c16, c17, c18, c19, c22, ↓s12, ↓s16, RX, ↓s18 F hn, ↓s19 F hn T, ↓s22 F hn T, ↓s17 F hn T, g0, g1, g3, f1, rf_y, rf_n f1, false_and, kd_44, ↓reduceIte, TK, lt_run hn, le43, Int.le_refl, Int.lt_irrefl, Option.some.injEq, exists_eq_left', true_and, and_true, if_true, if_false, decide_eq_false_iff_not, decide_eq_true_eq, Nat.reduceAdd, Nat.reduceLeDiff, Nat.reduceLT, Int.reduceAdd, Int.reduceSub, Int.reduceMul, Int.reduceNeg, not_true_eq_false, not_false_eq_true]
      exact lpf _ _ _ _ _ (by omega) (by omega) (by omega) (by omega) q
    · simp +decide (maxSteps := 4000000) (disch := omega) only [k70_0, k70_2, k70_3, k70_4, k70_6, k70_r, k70_s, F_al1, T_getI, F_is2i, F_is2r, F_is2m, T_I, F_is3i, F_is3r, F_is3m, T_ft, F_il3, T_icge, J_ifeq, T_dupI, T_dupR, T_add, T_putI, T_putZ, F_inc3i, F_inc3r, F_inc3m, T_goto, F_il2, J_icne, T_sub, F_is4i, F_is4r, F_is4m, J_ifne, F_is5i, F_is5r, F_is5m, F_il5, F_al0, T_getR, F_il4, T_iast, F_inc5i, F_inc5r, F_inc5m, T_ret, c12, c16, c17, c18, c19, c22, ↓s12, ↓s16, RX, ↓s18 F hn, ↓s19 F hn T, ↓s22 F hn T, ↓s17 F hn T, g0, g1, g3, f1, rf_y, rf_n f1, false_and, kd_44, ↓reduceIte, TK, lt_run hn, le43, Int.le_refl, Int.lt_irrefl, Option.some.injEq, exists_eq_left', true_and, and_true, if_true, if_false, decide_eq_false_iff_not, decide_eq_true_eq, Nat.reduceAdd, Nat.reduceLeDiff, Nat.reduceLT, Int.reduceAdd, Int.reduceSub, Int.reduceMul, Int.reduceNeg, not_true_eq_false, not_false_eq_true]
      exact lpf _ _ _ _ _ (by omega) (by omega) (by omega) (by omega) q
  rw [if_pos g1] at kk
  have hin := bt_in (b := b) (t := t) (i := p + k) (by omega)
  by_cases g2 : 48 ≤ bt b t (p + k + 1) ∧ bt b t (p + k + 1) ≤ 55
  case neg =>
    rw [if_neg g2] at kk
    have f1 : p + k + 1 ≠ -1 := by omega
    have q := kk h (p + k + 1 + 1) (by omega) (by omega) Ef.refl (fun z => absurd z f1)
    simp +decide (maxSteps := 4000000) (disch := omega) only [k70_0, k70_2, k70_3, k70_4, k70_6, k70_r, k70_s, F_al1, T_getI, F_is2i, F_is2r, F_is2m, T_I, F_is3i, F_is3r, F_is3m, T_ft, F_il3, T_icge, J_ifeq, T_dupI, T_dupR, T_add, T_putI, T_putZ, F_inc3i, F_inc3r, F_inc3m, T_goto, F_il2, J_icne, T_sub, F_is4i, F_is4r, F_is4m, J_ifne, F_is5i, F_is5r, F_is5m, F_il5, F_al0, T_getR, F_il4, T_iast, F_inc5i, F_inc5r, F_inc5m, T_ret, c12, c16, c17, c18, c19, c22, ↓s12, ↓s16, RX, ↓s18 F hn, ↓s19 F hn T, ↓s22 F hn T, ↓s17 F hn T, g0, g1, g2, rf_y, kd_44, ↓reduceIte, TK, lt_run hn, le43, Int.le_refl, Int.lt_irrefl, Option.some.injEq, exists_eq_left', true_and, and_true, if_true, if_false, decide_eq_false_iff_not, decide_eq_true_eq, Nat.reduceAdd, Nat.reduceLeDiff, Nat.reduceLT, Int.reduceAdd, Int.reduceSub, Int.reduceMul, Int.reduceNeg, not_true_eq_false, not_false_eq_true]
    exact lpf _ _ _ _ _ (by omega) (by omega) (by omega) (by omega) q
  rw [if_pos g2] at kk
  simp +decide (maxSteps := 4000000) (disch := omega) only [k70_0, k70_2, k70_3, k70_4, k70_6, k70_r, k70_s, F_al1, T_getI, F_is2i, F_is2r, F_is2m, T_I, F_is3i, F_is3r, F_is3m, T_ft, F_il3, T_icge, J_ifeq, T_dupI, T_dupR, T_add, T_putI, T_putZ, F_inc3i, F_inc3r, F_inc3m, T_goto, F_il2, J_icne, T_sub, F_is4i, F_is4r, F_is4m, J_ifne, F_is5i, F_is5r, F_is5m, F_il5, F_al0, T_getR, F_il4, T_iast, F_inc5i, F_inc5r, F_inc5m, T_ret, c12, c16, c17, c18, c19, c22, ↓s12, ↓s16, RX, ↓s18 F hn, ↓s19 F hn T, ↓s22 F hn T, ↓s17 F hn T, g0, g1, g2, rf_y, kd_44, ↓reduceIte, TK, lt_run hn, le43, Int.le_refl, Int.lt_irrefl, Option.some.injEq, exists_eq_left', true_and, and_true, if_true, if_false, decide_eq_false_iff_not, decide_eq_true_eq, Nat.reduceAdd, Nat.reduceLeDiff, Nat.reduceLT, Int.reduceAdd, Int.reduceSub, Int.reduceMul, Int.reduceNeg, not_true_eq_false, not_false_eq_true]
  refine T_for (σ := Unit) (fun i _ => [.ref 105, .ref 44, .int (J p), .int (J (p + k)), .int (J (bt b t (p + k + 1) - 48)), .int (J i)]) (fun i _ h' => ∃ h2, h' = RS h2 (p + k + 1) (-1) ∧ Ef (fun a _ => a = 107) h h2 ∧ Rk h2 107 26 (wr b (bt b t (p + k + 1) - 48) p (i - p).toNat D)) p (p + k) ?_ ?_ p () _ (by omega) (by omega) ⟨h, rfl, Ef.refl, by rw [show (p - p).toNat = 0 by omega]; exact R⟩
  · rintro i _ _ i0 i1 ⟨h2, rfl, e2, R2⟩ ih
    have T2 : TpC h2 t b := T.ef e2 (by decide) (fun k => by omega)
    obtain ⟨y1, y2, y3⟩ := smb_in (k2 i i0 i1)
    rw [k70_5]
    simp +decide (maxSteps := 4000000) (disch := omega) only [k70_0, k70_2, k70_3, k70_4, k70_6, k70_r, k70_s, F_al1, T_getI, F_is2i, F_is2r, F_is2m, T_I, F_is3i, F_is3r, F_is3m, T_ft, F_il3, T_icge, J_ifeq, T_dupI, T_dupR, T_add, T_putI, T_putZ, F_inc3i, F_inc3r, F_inc3m, T_goto, F_il2, J_icne, T_sub, F_is4i, F_is4r, F_is4m, J_ifne, F_is5i, F_is5r, F_is5m, F_il5, F_al0, T_getR, F_il4, T_iast, F_inc5i, F_inc5r, F_inc5m, T_ret, c12, c16, c17, c18, c19, c22, ↓s17, ↓s18, ↓s19, ↓s22, FX F, ↓s16 F hn, c12t F hn T2, y2, kd_44, kd_107, ln_107, show ¬ p + k ≤ i by omega, ↓reduceIte, TK, lt_run hn, le43, Int.le_refl, Int.lt_irrefl, Option.some.injEq, exists_eq_left', true_and, and_true, if_true, if_false, decide_eq_false_iff_not, decide_eq_true_eq, Nat.reduceAdd, Nat.reduceLeDiff, Nat.reduceLT, Int.reduceAdd, Int.reduceSub, Int.reduceMul, Int.reduceNeg, not_true_eq_false, not_false_eq_true]
    rw [RS_d (by decide)]
    refine ih () _ ⟨_, rfl, e2.sA rfl, ?_⟩
    have R3 := Rk_w (v := bt b t (p + k + 1) - 48) (c := b i - 97) R2 (by omega)
    rw [show (i + 1 - p).toNat = (i - p).toNat + 1 by omega]
    unfold wr
    rw [show p + ((i - p).toNat : Int) = i by omega]
    exact R3
  · rintro _ _ ⟨h2, rfl, e2, R2⟩
    rw [k70_5]
    simp +decide (maxSteps := 4000000) (disch := omega) only [k70_0, k70_2, k70_3, k70_4, k70_6, k70_r, k70_s, F_al1, T_getI, F_is2i, F_is2r, F_is2m, T_I, F_is3i, F_is3r, F_is3m, T_ft, F_il3, T_icge, J_ifeq, T_dupI, T_dupR, T_add, T_putI, T_putZ, F_inc3i, F_inc3r, F_inc3m, T_goto, F_il2, J_icne, T_sub, F_is4i, F_is4r, F_is4m, J_ifne, F_is5i, F_is5r, F_is5m, F_il5, F_al0, T_getR, F_il4, T_iast, F_inc5i, F_inc5r, F_inc5m, T_ret, c12, c16, c17, c18, c19, c22, ↓s12, ↓s16, ↓s17, ↓s18, ↓s19, ↓s22, RX, kd_44, ↓reduceIte, TK, lt_run hn, le43, Int.le_refl, Int.lt_irrefl, Option.some.injEq, exists_eq_left', true_and, and_true, if_true, if_false, decide_eq_false_iff_not, decide_eq_true_eq, Nat.reduceAdd, Nat.reduceLeDiff, Nat.reduceLT, Int.reduceAdd, Int.reduceSub, Int.reduceMul, Int.reduceNeg, not_true_eq_false, not_false_eq_true]
    rw [show p + k + 1 + 1 = p + k + 2 by omega]
    exact kk h2 (p + k + 2) (by omega) (by omega) e2 (fun _ => ⟨rfl, R2⟩)
end LG
