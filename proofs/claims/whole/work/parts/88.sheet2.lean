/-! sheet -/
def one (b : Int → Int) (t m p : Int) (D : Int → Int) : Qd := if bt b t p = 40 then brk b t m p D else itq b t m p D
def rws (b : Int → Int) (t : Int) : Nat → Int → Int → (Int → Int) → Int × Int × (Int → Int)
  | 0, _, _, D => (0, 0, D)
  | q + 1, m, p, D => if (one b t m p D).1 = -1 then (if t ≤ (one b t m p D).2.1 then (-1, (one b t m p D).2.2.1, (one b t m p D).2.2.2) else if bt b t (one b t m p D).2.1 = 32 then rws b t q (one b t m p D).2.2.1 ((one b t m p D).2.1 + 1) (one b t m p D).2.2.2 else ((one b t m p D).2.1, 0, D)) else ((one b t m p D).1, 0, D)
def rdR (b : Int → Int) (t : Int) : Int × Int × (Int → Int) := if 0 < t then rws b t 1602 0 0 (fun _ => 0) else (-1, 0, fun _ => 0)
theorem Rg_0 : Rg (fun _ => 0) := fun _ => by dsimp only; omega
section SE
variable {E : AEn} {h h' : AHi} {hr : AHr} {n : Nat} {Q : ARs → Prop} {l t p f m k w : Int} {b D : Int → Int} {r : Qd}
theorem one_b (ht : 0 ≤ t ∧ t ≤ 1600) (hb : ∀ i, 0 ≤ b i ∧ b i ≤ 255) (hp : 0 ≤ p ∧ p ≤ 1650) (hm : 0 ≤ m) (hD : Rg D) : Qk t m p (one b t m p D) := by
  unfold one
  split
  · exact brk_b ht hb hp hm hD
  · exact itq_b ht hb (by omega) hD
theorem rws_b (ht : 0 ≤ t ∧ t ≤ 1600) (hb : ∀ i, 0 ≤ b i ∧ b i ≤ 255) : ∀ (q : Nat) (m p : Int) (D : Int → Int), t - p < q → 0 ≤ p → p ≤ t → 0 ≤ m → Rg D → ((rws b t q m p D).1 = -1 ∨ 0 ≤ (rws b t q m p D).1 ∧ (rws b t q m p D).1 ≤ 1700) ∧ ((rws b t q m p D).1 = -1 → (0 ≤ (rws b t q m p D).2.1 ∧ (rws b t q m p D).2.1 ≤ 120) ∧ Rg (rws b t q m p D).2.2) := by
  intro q
  induction q with
  | zero => intro m p D q0 p0 p1; omega
  | succ q ih =>
    intro m p D q0 p0 p1 m0 hD
    have K := one_b (m := m) (p := p) ht hb (by omega) m0 hD
    unfold rws
    generalize one b t m p D = r at *
    by_cases g : r.1 = -1
    · obtain ⟨⟨u1, u2⟩, ⟨u3, u4⟩, u5⟩ := K.2 g
      rw [if_pos g]
      by_cases g1 : t ≤ r.2.1
      · rw [if_pos g1]
        exact ⟨Or.inl rfl, fun _ => ⟨⟨by dsimp only; omega, u4⟩, u5⟩⟩
      · rw [if_neg g1]
        by_cases g2 : bt b t r.2.1 = 32
        · rw [if_pos g2]
          exact ih _ _ _ (by omega) (by omega) (by omega) (by omega) u5
        · rw [if_neg g2]
          exact ⟨Or.inr (by dsimp only; omega), fun z => by dsimp only at z; omega⟩
    · rw [if_neg g]
      exact ⟨K.1, fun z => absurd z g⟩
theorem rdR_b (ht : 0 ≤ t ∧ t ≤ 1600) (hb : ∀ i, 0 ≤ b i ∧ b i ≤ 255) : ((rdR b t).1 = -1 ∨ 0 ≤ (rdR b t).1 ∧ (rdR b t).1 ≤ 1700) ∧ ((rdR b t).1 = -1 → (0 ≤ (rdR b t).2.1 ∧ (rdR b t).2.1 ≤ 120) ∧ Rg (rdR b t).2.2) := by
  unfold rdR
  split
  · exact rws_b ht hb 1602 0 0 _ (by omega) (by decide) (by omega) (by decide) Rg_0
  · exact ⟨Or.inl rfl, fun _ => ⟨⟨by decide, by decide⟩, Rg_0⟩⟩
theorem z58 (F : FH hr) (hn : 775 ≤ n) (l0 : 0 ≤ l) (l1 : l < 4) : ∀ (q : Nat) (i p m : Int) (D : Int → Int) (h : AHi), t - p < q → 0 ≤ i → 2 * i ≤ p → 0 ≤ p → p ≤ t → (0 ≤ m ∧ m ≤ 120) → Rg D → TpC h t b → Rz h (623 + 3 * l.toNat) 3 (625 + 3 * l.toNat) m D →
    (∀ h' p' (v2 v3 : Int32), 0 ≤ p' → p' ≤ 1700 → Ef (Sdw l.toNat) h h' → ((rws b t q m p D).1 = -1 → Rz h' (623 + 3 * l.toNat) 3 (625 + 3 * l.toNat) (rws b t q m p D).2.1 (rws b t q m p D).2.2) → Tm E 58 (a_bl 58 4) [.ref (623 + 3 * l.toNat), .ref 44, .int v2, .int v3] [] (RS h' p' (rws b t q m p D).1) hr n Q) →
    Tm E 58 (a_bl 58 1) [.ref (623 + 3 * l.toNat), .ref 44, .int (J 1), .int (J i)] [] (RS h p (-1)) hr n Q := by
  intro q
  have x1 := X90 E F l0 l1
  induction q with
  | zero => intro i p m D h q0 i0 i1 p0 p1; omega
  | succ q ih =>
    intro i p m D h q0 i0 i1 p0 p1 hm hD T R kk
    have t1 := T.1
    have hbt := bt_r (t := t) T.2.1 p
    have K := one_b (m := m) (p := p) T.1 T.2.1 (by omega) hm.1 hD
    unfold rws at kk
    have after : ∀ h1 w, 0 ≤ w → w ≤ 1700 → Ef (Sdw l.toNat) h h1 → ((one b t m p D).1 = -1 → w = (one b t m p D).2.1 ∧ Rz h1 (623 + 3 * l.toNat) 3 (625 + 3 * l.toNat) (one b t m p D).2.2.1 (one b t m p D).2.2.2) → Tm E 58 (a_bl 58 3) [.ref (623 + 3 * l.toNat), .ref 44, .int (J 1), .int (J i)] [] (RS h1 w (one b t m p D).1) hr n Q := fun h1 w w0 w1 e1 gd => by
      have T1 : TpC h1 t b := T.ef e1 (fun q => by unfold Sdw at q; omega) (fun k q => by unfold Sdw at q; omega)
      rw [k58_3]
      generalize one b t m p D = r at *
      by_cases g : r.1 = -1
      · obtain ⟨ep, R1⟩ := gd g
        obtain ⟨⟨u1, u2⟩, ⟨u3, u4⟩, u5⟩ := K.2 g
        rw [if_pos g, ← ep] at kk
        rw [← ep] at u1 u2
        rw [g]
        by_cases g1 : t ≤ w
        · rw [if_pos g1] at kk
          have fin := kk h1 w (J 0) (J (i + 1)) w0 w1 e1 (fun _ => R1)
          simp +decide (maxSteps := 4000000) (disch := omega) only [k58_0, k58_2, k58_3, k58_4, k58_5, k58_r, k58_s, F_al1, F_al0, T_I, T_putI, T_putZ, F_is2i, F_is2r, F_is2m, F_is3i, F_is3r, F_is3m, T_ft, F_il2, J_ifeq, F_il3, T_icge, J_icne, T_goto, F_inc3i, F_inc3r, F_inc3m, J_ifne, T_ret, T_getI, c13, c16, c19, c20, c21, c24, c59, c60, c61, ↓s13, ↓s16, ↓s19, ↓s21, ↓s24, ↓s20 F hn T1, show ¬ w < t by omega, kd_44, ↓reduceIte, TK, lt_run hn, le43, Int.le_refl, Int.lt_irrefl, Option.some.injEq, exists_eq_left', true_and, and_true, if_true, if_false, decide_eq_false_iff_not, decide_eq_true_eq, Nat.reduceAdd, Nat.reduceLeDiff, Nat.reduceLT, Int.reduceAdd, Int.reduceSub, Int.reduceMul, Int.reduceNeg, not_true_eq_false, not_false_eq_true]
          rw [k58_1]
          simp +decide (maxSteps := 4000000) (disch := omega) only [k58_0, k58_2, k58_3, k58_5, k58_r, k58_s, F_al1, F_al0, T_I, T_putI, T_putZ, F_is2i, F_is2r, F_is2m, F_is3i, F_is3r, F_is3m, T_ft, F_il2, J_ifeq, F_il3, T_icge, J_icne, T_goto, F_inc3i, F_inc3r, F_inc3m, J_ifne, T_ret, T_getI, c13, c16, c19, c20, c21, c24, c59, c60, c61, ↓s13, ↓s16, ↓s19, ↓s20, ↓s21, ↓s24, ↓reduceIte, TK, lt_run hn, le43, Int.le_refl, Int.lt_irrefl, Option.some.injEq, exists_eq_left', true_and, and_true, if_true, if_false, decide_eq_false_iff_not, decide_eq_true_eq, Nat.reduceAdd, Nat.reduceLeDiff, Nat.reduceLT, Int.reduceAdd, Int.reduceSub, Int.reduceMul, Int.reduceNeg, not_true_eq_false, not_false_eq_true]
          exact fin
        · rw [if_neg g1] at kk
          by_cases g2 : bt b t w = 32
          · rw [if_pos g2] at kk
            simp +decide (maxSteps := 4000000) (disch := omega) only [k58_0, k58_2, k58_3, k58_4, k58_5, k58_r, k58_s, F_al1, F_al0, T_I, T_putI, T_putZ, F_is2i, F_is2r, F_is2m, F_is3i, F_is3r, F_is3m, T_ft, F_il2, J_ifeq, F_il3, T_icge, J_icne, T_goto, F_inc3i, F_inc3r, F_inc3m, J_ifne, T_ret, T_getI, c13, c16, c19, c20, c21, c24, c59, c60, c61, ↓s13, ↓s16, ↓s19, ↓s21, ↓s24, ↓s20 F hn T1, show w < t by omega, g2, kd_44, ↓reduceIte, TK, lt_run hn, le43, Int.le_refl, Int.lt_irrefl, Option.some.injEq, exists_eq_left', true_and, and_true, if_true, if_false, decide_eq_false_iff_not, decide_eq_true_eq, Nat.reduceAdd, Nat.reduceLeDiff, Nat.reduceLT, Int.reduceAdd, Int.reduceSub, Int.reduceMul, Int.reduceNeg, not_true_eq_false, not_false_eq_true]
            exact ih (i + 1) (w + 1) _ _ h1 (by omega) (by omega) (by omega) (by omega) (by omega) (by omega) u5 T1 R1 (fun h' p' v2 v3 a1 a2 a3 => kk h' p' v2 v3 a1 a2 (e1.trans a3))
          · rw [if_neg g2] at kk
            have fin := kk h1 w (J 0) (J (i + 1)) w0 w1 e1 (fun z => by dsimp only at z; omega)
            simp +decide (maxSteps := 4000000) (disch := omega) only [k58_0, k58_2, k58_3, k58_4, k58_5, k58_r, k58_s, F_al1, F_al0, T_I, T_putI, T_putZ, F_is2i, F_is2r, F_is2m, F_is3i, F_is3r, F_is3m, T_ft, F_il2, J_ifeq, F_il3, T_icge, J_icne, T_goto, F_inc3i, F_inc3r, F_inc3m, J_ifne, T_ret, T_getI, c13, c16, c19, c20, c21, c24, c59, c60, c61, ↓s13, ↓s16, ↓s19, ↓s21, ↓s24, ↓s20 F hn T1, show w < t by omega, g2, kd_44, ↓reduceIte, TK, lt_run hn, le43, Int.le_refl, Int.lt_irrefl, Option.some.injEq, exists_eq_left', true_and, and_true, if_true, if_false, decide_eq_false_iff_not, decide_eq_true_eq, Nat.reduceAdd, Nat.reduceLeDiff, Nat.reduceLT, Int.reduceAdd, Int.reduceSub, Int.reduceMul, Int.reduceNeg, not_true_eq_false, not_false_eq_true]
            rw [k58_1]
            simp +decide (maxSteps := 4000000) (disch := omega) only [k58_0, k58_2, k58_3, k58_5, k58_r, k58_s, F_al1, F_al0, T_I, T_putI, T_putZ, F_is2i, F_is2r, F_is2m, F_is3i, F_is3r, F_is3m, T_ft, F_il2, J_ifeq, F_il3, T_icge, J_icne, T_goto, F_inc3i, F_inc3r, F_inc3m, J_ifne, T_ret, T_getI, c13, c16, c19, c20, c21, c24, c59, c60, c61, ↓s13, ↓s16, ↓s19, ↓s20, ↓s21, ↓s24, ↓reduceIte, TK, lt_run hn, le43, Int.le_refl, Int.lt_irrefl, Option.some.injEq, exists_eq_left', true_and, and_true, if_true, if_false, decide_eq_false_iff_not, decide_eq_true_eq, Nat.reduceAdd, Nat.reduceLeDiff, Nat.reduceLT, Int.reduceAdd, Int.reduceSub, Int.reduceMul, Int.reduceNeg, not_true_eq_false, not_false_eq_true]
            exact fin
      · rw [if_neg g] at kk
        have fb := K.1
        have fin := kk h1 w (J 0) (J (i + 1)) w0 w1 e1 (fun z => absurd z g)
        simp +decide (maxSteps := 4000000) (disch := omega) only [k58_0, k58_2, k58_3, k58_4, k58_5, k58_r, k58_s, F_al1, F_al0, T_I, T_putI, T_putZ, F_is2i, F_is2r, F_is2m, F_is3i, F_is3r, F_is3m, T_ft, F_il2, J_ifeq, F_il3, T_icge, J_icne, T_goto, F_inc3i, F_inc3r, F_inc3m, J_ifne, T_ret, T_getI, c13, c16, c19, c20, c21, c24, c59, c60, c61, ↓s13, ↓s16, ↓s19, ↓s21, ↓s24, ↓s20 F hn T1, g, false_and, kd_44, ↓reduceIte, TK, lt_run hn, le43, Int.le_refl, Int.lt_irrefl, Option.some.injEq, exists_eq_left', true_and, and_true, if_true, if_false, decide_eq_false_iff_not, decide_eq_true_eq, Nat.reduceAdd, Nat.reduceLeDiff, Nat.reduceLT, Int.reduceAdd, Int.reduceSub, Int.reduceMul, Int.reduceNeg, not_true_eq_false, not_false_eq_true]
        rw [k58_1]
        simp +decide (maxSteps := 4000000) (disch := omega) only [k58_0, k58_2, k58_3, k58_5, k58_r, k58_s, F_al1, F_al0, T_I, T_putI, T_putZ, F_is2i, F_is2r, F_is2m, F_is3i, F_is3r, F_is3m, T_ft, F_il2, J_ifeq, F_il3, T_icge, J_icne, T_goto, F_inc3i, F_inc3r, F_inc3m, J_ifne, T_ret, T_getI, c13, c16, c19, c20, c21, c24, c59, c60, c61, ↓s13, ↓s16, ↓s19, ↓s20, ↓s21, ↓s24, ↓reduceIte, TK, lt_run hn, le43, Int.le_refl, Int.lt_irrefl, Option.some.injEq, exists_eq_left', true_and, and_true, if_true, if_false, decide_eq_false_iff_not, decide_eq_true_eq, Nat.reduceAdd, Nat.reduceLeDiff, Nat.reduceLT, Int.reduceAdd, Int.reduceSub, Int.reduceMul, Int.reduceNeg, not_true_eq_false, not_false_eq_true]
        exact fin
    unfold one at after
    by_cases g : bt b t p = 40
    · rw [if_pos g] at after
      rw [k58_1]
      simp +decide (maxSteps := 4000000) (disch := omega) only [k58_0, k58_2, k58_5, k58_r, k58_s, F_al1, F_al0, T_I, T_putI, T_putZ, F_is2i, F_is2r, F_is2m, F_is3i, F_is3r, F_is3m, T_ft, F_il2, J_ifeq, F_il3, T_icge, J_icne, T_goto, F_inc3i, F_inc3r, F_inc3m, J_ifne, T_ret, T_getI, c13, c16, c19, c20, c21, c24, c59, c60, c61, ↓s13, ↓s16, ↓s20, ↓s21, ↓s24, x1, ↓s19 F hn T, g, show ¬ 1600 ≤ i by omega, kd_44, ↓reduceIte, TK, lt_run hn, le43, Int.le_refl, Int.lt_irrefl, Option.some.injEq, exists_eq_left', true_and, and_true, if_true, if_false, decide_eq_false_iff_not, decide_eq_true_eq, Nat.reduceAdd, Nat.reduceLeDiff, Nat.reduceLT, Int.reduceAdd, Int.reduceSub, Int.reduceMul, Int.reduceNeg, not_true_eq_false, not_false_eq_true]
      refine w59 (p := p) F hn l0 l1 T R hm hD (by omega) g (fun h1 w w0 w1 e1 mm gd => ?_)
      have fin := after h1 w w0 w1 e1 gd
      simp +decide (maxSteps := 4000000) (disch := omega) only [k58_0, k58_2, k58_4, k58_5, k58_r, k58_s, F_al1, F_al0, T_I, T_putI, T_putZ, F_is2i, F_is2r, F_is2m, F_is3i, F_is3r, F_is3m, T_ft, F_il2, J_ifeq, F_il3, T_icge, J_icne, T_goto, F_inc3i, F_inc3r, F_inc3m, J_ifne, T_ret, T_getI, c13, c16, c19, c20, c21, c24, c59, c60, c61, ↓s13, ↓s16, ↓s19, ↓s20, ↓s21, ↓s24, ↓reduceIte, TK, lt_run hn, le43, Int.le_refl, Int.lt_irrefl, Option.some.injEq, exists_eq_left', true_and, and_true, if_true, if_false, decide_eq_false_iff_not, decide_eq_true_eq, Nat.reduceAdd, Nat.reduceLeDiff, Nat.reduceLT, Int.reduceAdd, Int.reduceSub, Int.reduceMul, Int.reduceNeg, not_true_eq_false, not_false_eq_true]
      exact fin
    · rw [if_neg g] at after
      rw [k58_1]
      simp +decide (maxSteps := 4000000) (disch := omega) only [k58_0, k58_2, k58_5, k58_r, k58_s, F_al1, F_al0, T_I, T_putI, T_putZ, F_is2i, F_is2r, F_is2m, F_is3i, F_is3r, F_is3m, T_ft, F_il2, J_ifeq, F_il3, T_icge, J_icne, T_goto, F_inc3i, F_inc3r, F_inc3m, J_ifne, T_ret, T_getI, c13, c16, c19, c20, c21, c24, c59, c60, c61, ↓s13, ↓s16, ↓s20, ↓s21, ↓s24, x1, ↓s19 F hn T, g, show ¬ 1600 ≤ i by omega, kd_44, ↓reduceIte, TK, lt_run hn, le43, Int.le_refl, Int.lt_irrefl, Option.some.injEq, exists_eq_left', true_and, and_true, if_true, if_false, decide_eq_false_iff_not, decide_eq_true_eq, Nat.reduceAdd, Nat.reduceLeDiff, Nat.reduceLT, Int.reduceAdd, Int.reduceSub, Int.reduceMul, Int.reduceNeg, not_true_eq_false, not_false_eq_true]
      refine w60 (p := p) F hn l0 l1 T R hm (by omega) (fun h1 w w0 w1 e1 mm gd => ?_)
      have fin := after h1 w w0 w1 e1 gd
      simp +decide (maxSteps := 4000000) (disch := omega) only [k58_0, k58_2, k58_4, k58_5, k58_r, k58_s, F_al1, F_al0, T_I, T_putI, T_putZ, F_is2i, F_is2r, F_is2m, F_is3i, F_is3r, F_is3m, T_ft, F_il2, J_ifeq, F_il3, T_icge, J_icne, T_goto, F_inc3i, F_inc3r, F_inc3m, J_ifne, T_ret, T_getI, c13, c16, c19, c20, c21, c24, c59, c60, c61, ↓s13, ↓s16, ↓s19, ↓s20, ↓s21, ↓s24, ↓reduceIte, TK, lt_run hn, le43, Int.le_refl, Int.lt_irrefl, Option.some.injEq, exists_eq_left', true_and, and_true, if_true, if_false, decide_eq_false_iff_not, decide_eq_true_eq, Nat.reduceAdd, Nat.reduceLeDiff, Nat.reduceLT, Int.reduceAdd, Int.reduceSub, Int.reduceMul, Int.reduceNeg, not_true_eq_false, not_false_eq_true]
      exact fin
/-- what the class's reading of a row changes -/
def Ssr (l a k : Nat) : Prop := (a = 44 ∧ (k = 2 ∨ k = 3)) ∨ Sdw l a k
theorem w58 (F : FH hr) (hn : 775 ≤ n) (l0 : 0 ≤ l) (l1 : l < 4) (T : TpC h t b)
    (k1 : ∀ h', Ef (Ssr l.toNat) h h' → (rdR b t).1 ≠ -1 → Q (some (.int (J (-1000 - (rdR b t).1))), h', hr, n))
    (k2 : ∀ h', Ef (fun a k => Ssr l.toNat a k ∨ (a = 623 + 3 * l.toNat ∧ k = 1) ∨ a = 624 + 3 * l.toNat) h h' → (rdR b t).1 = -1 → h' (623 + 3 * l.toNat) 1 = J (rdR b t).2.1 → (∀ f, 0 ≤ f → f < (rdR b t).2.1 → gA h' (624 + 3 * l.toNat) f = J ((rdR b t).2.2 f)) → Q (some (.int (J (rdR b t).2.1)), h', hr, n)) : Sp E 58 [.ref (623 + 3 * l.toNat), .ref 44] h hr n Q := by
  have x1 := X90 E F l0 l1
  have t1 := T.1
  have rb := rdR_b T.1 T.2.1
  have eR : ∀ {h : AHi} {p f : Int}, Ef (Ssr l.toNat) h (RS h p f) := fun {h p f} => Ef_RS.mono fun a k q => Or.inl q
  have last : ∀ h1 w v2 v3, 0 ≤ w → w ≤ 1700 → Ef (Ssr l.toNat) h h1 → ((rdR b t).1 = -1 → Rz h1 (623 + 3 * l.toNat) 3 (625 + 3 * l.toNat) (rdR b t).2.1 (rdR b t).2.2) → Tm E 58 (a_bl 58 4) [.ref (623 + 3 * l.toNat), .ref 44, .int v2, .int v3] [] (RS h1 w (rdR b t).1) hr n Q := fun h1 w v2 v3 w0 w1 e1 gd => by
    rw [k58_4]
    by_cases g : (rdR b t).1 = -1
    · obtain ⟨R1, R2⟩ := gd g
      obtain ⟨u1, u2⟩ := rb.2 g
      have k3 := fun h' q => k2 h' q g
      rw [g]
      simp +decide (maxSteps := 4000000) (disch := omega) only [k58_0, k58_2, k58_3, k58_4, k58_5, k58_r, k58_s, F_al1, F_al0, T_I, T_putI, T_putZ, F_is2i, F_is2r, F_is2m, F_is3i, F_is3r, F_is3m, T_ft, F_il2, J_ifeq, F_il3, T_icge, J_icne, T_goto, F_inc3i, F_inc3r, F_inc3m, J_ifne, T_ret, T_getI, c13, c16, c19, c20, c21, c24, c59, c60, c61, ↓s13, ↓s19, ↓s20, ↓s21, ↓s24, x1, ↓s16 F hn, kd_44, ↓reduceIte, TK, lt_run hn, le43, Int.le_refl, Int.lt_irrefl, Option.some.injEq, exists_eq_left', true_and, and_true, if_true, if_false, decide_eq_false_iff_not, decide_eq_true_eq, Nat.reduceAdd, Nat.reduceLeDiff, Nat.reduceLT, Int.reduceAdd, Int.reduceSub, Int.reduceMul, Int.reduceNeg, not_true_eq_false, not_false_eq_true]
      refine w61 F hn l0 l1 (m := (rdR b t).2.1) (D := (rdR b t).2.2) u1 (by rw [RS_o (by omega)]; exact R1) (fun f f0 f1 => by rw [RS_g (by omega)]; exact R2 f f0 f1) (fun h2 d1 d2 e2 => ?_)
      simp +decide (maxSteps := 4000000) (disch := omega) only [k58_0, k58_2, k58_3, k58_4, k58_5, k58_r, k58_s, F_al1, F_al0, T_I, T_putI, T_putZ, F_is2i, F_is2r, F_is2m, F_is3i, F_is3r, F_is3m, T_ft, F_il2, J_ifeq, F_il3, T_icge, J_icne, T_goto, F_inc3i, F_inc3r, F_inc3m, J_ifne, T_ret, T_getI, c13, c16, c19, c20, c21, c24, c59, c60, c61, ↓s13, ↓s16, ↓s19, ↓s20, ↓s21, ↓s24, x1, d1, ↓reduceIte, TK, lt_run hn, le43, Int.le_refl, Int.lt_irrefl, Option.some.injEq, exists_eq_left', true_and, and_true, if_true, if_false, decide_eq_false_iff_not, decide_eq_true_eq, Nat.reduceAdd, Nat.reduceLeDiff, Nat.reduceLT, Int.reduceAdd, Int.reduceSub, Int.reduceMul, Int.reduceNeg, not_true_eq_false, not_false_eq_true]
      exact k3 h2 (((e1.trans eR).mono fun a k q => Or.inl q).trans (e2.mono fun a k q => Or.inr q)) d1 d2
    · have fb := rb.1
      simp +decide (maxSteps := 4000000) (disch := omega) only [k58_0, k58_2, k58_3, k58_4, k58_5, k58_r, k58_s, F_al1, F_al0, T_I, T_putI, T_putZ, F_is2i, F_is2r, F_is2m, F_is3i, F_is3r, F_is3m, T_ft, F_il2, J_ifeq, F_il3, T_icge, J_icne, T_goto, F_inc3i, F_inc3r, F_inc3m, J_ifne, T_ret, T_getI, c13, c16, c19, c20, c21, c24, c59, c60, c61, ↓s13, ↓s19, ↓s20, ↓s21, ↓s16 F hn, ↓s24 F hn, g, kd_44, ↓reduceIte, TK, lt_run hn, le43, Int.le_refl, Int.lt_irrefl, Option.some.injEq, exists_eq_left', true_and, and_true, if_true, if_false, decide_eq_false_iff_not, decide_eq_true_eq, Nat.reduceAdd, Nat.reduceLeDiff, Nat.reduceLT, Int.reduceAdd, Int.reduceSub, Int.reduceMul, Int.reduceNeg, not_true_eq_false, not_false_eq_true]
      exact k1 _ (e1.trans eR) g
  have e0 : Ef (Ssr l.toNat) h (hI h (623 + 3 * l.toNat) 3 (J 0)) := Ef.refl.hI (Or.inr (Or.inl ⟨rfl, rfl⟩))
  have T0 : TpC (hI h (623 + 3 * l.toNat) 3 (J 0)) t b := T.ef (S := fun a k => a = 623 + 3 * l.toNat) (Ef.refl.hI rfl) (by omega) (fun k => by omega)
  unfold rdR at last
  by_cases g : 0 < t
  · rw [if_pos g] at last
    simp +decide (maxSteps := 4000000) (disch := omega) only [k58_0, k58_2, k58_3, k58_4, k58_5, k58_r, k58_s, F_al1, F_al0, T_I, T_putI, T_putZ, F_is2i, F_is2r, F_is2m, F_is3i, F_is3r, F_is3m, T_ft, F_il2, J_ifeq, F_il3, T_icge, J_icne, T_goto, F_inc3i, F_inc3r, F_inc3m, J_ifne, T_ret, T_getI, c13, c16, c19, c20, c21, c24, c59, c60, c61, ↓s16, ↓s19, ↓s20, ↓s24, x1, ↓s13 F hn, kd_44, ↓reduceIte, TK, lt_run hn, le43, Int.le_refl, Int.lt_irrefl, Option.some.injEq, exists_eq_left', true_and, and_true, if_true, if_false, decide_eq_false_iff_not, decide_eq_true_eq, Nat.reduceAdd, Nat.reduceLeDiff, Nat.reduceLT, Int.reduceAdd, Int.reduceSub, Int.reduceMul, Int.reduceNeg, not_true_eq_false, not_false_eq_true]
    rw [RS_c (by omega)]
    simp +decide (maxSteps := 4000000) (disch := omega) only [k58_0, k58_2, k58_3, k58_4, k58_5, k58_r, k58_s, F_al1, F_al0, T_I, T_putI, T_putZ, F_is2i, F_is2r, F_is2m, F_is3i, F_is3r, F_is3m, T_ft, F_il2, J_ifeq, F_il3, T_icge, J_icne, T_goto, F_inc3i, F_inc3r, F_inc3m, J_ifne, T_ret, T_getI, c13, c16, c19, c20, c21, c24, c59, c60, c61, ↓s13, ↓s16, ↓s19, ↓s20, ↓s24, ↓s21 F hn T0, g, ↓reduceIte, TK, lt_run hn, le43, Int.le_refl, Int.lt_irrefl, Option.some.injEq, exists_eq_left', true_and, and_true, if_true, if_false, decide_eq_false_iff_not, decide_eq_true_eq, Nat.reduceAdd, Nat.reduceLeDiff, Nat.reduceLT, Int.reduceAdd, Int.reduceSub, Int.reduceMul, Int.reduceNeg, not_true_eq_false, not_false_eq_true]
    exact z58 F hn l0 l1 1602 0 0 0 (fun _ => 0) _ (by omega) (by decide) (by decide) (by decide) (by omega) (by decide) Rg_0 T0 ⟨hI_s, fun j j0 j1 => by omega⟩ (fun h1 w v2 v3 a1 a2 a3 a4 => last h1 w v2 v3 a1 a2 (e0.trans (a3.mono fun a k q => Or.inr q)) a4)
  · rw [if_neg g] at last
    have fin := last _ 0 (J 0) (J 0) (by decide) (by decide) e0 (fun _ => ⟨hI_s, fun j j0 j1 => by dsimp only at j1; omega⟩)
    simp +decide (maxSteps := 4000000) (disch := omega) only [k58_0, k58_2, k58_3, k58_4, k58_5, k58_r, k58_s, F_al1, F_al0, T_I, T_putI, T_putZ, F_is2i, F_is2r, F_is2m, F_is3i, F_is3r, F_is3m, T_ft, F_il2, J_ifeq, F_il3, T_icge, J_icne, T_goto, F_inc3i, F_inc3r, F_inc3m, J_ifne, T_ret, T_getI, c13, c16, c19, c20, c21, c24, c59, c60, c61, ↓s16, ↓s19, ↓s20, ↓s24, x1, ↓s13 F hn, kd_44, ↓reduceIte, TK, lt_run hn, le43, Int.le_refl, Int.lt_irrefl, Option.some.injEq, exists_eq_left', true_and, and_true, if_true, if_false, decide_eq_false_iff_not, decide_eq_true_eq, Nat.reduceAdd, Nat.reduceLeDiff, Nat.reduceLT, Int.reduceAdd, Int.reduceSub, Int.reduceMul, Int.reduceNeg, not_true_eq_false, not_false_eq_true]
    rw [RS_c (by omega)]
    simp +decide (maxSteps := 4000000) (disch := omega) only [k58_0, k58_2, k58_3, k58_4, k58_5, k58_r, k58_s, F_al1, F_al0, T_I, T_putI, T_putZ, F_is2i, F_is2r, F_is2m, F_is3i, F_is3r, F_is3m, T_ft, F_il2, J_ifeq, F_il3, T_icge, J_icne, T_goto, F_inc3i, F_inc3r, F_inc3m, J_ifne, T_ret, T_getI, c13, c16, c19, c20, c21, c24, c59, c60, c61, ↓s13, ↓s16, ↓s19, ↓s20, ↓s24, ↓s21 F hn T0, g, ↓reduceIte, TK, lt_run hn, le43, Int.le_refl, Int.lt_irrefl, Option.some.injEq, exists_eq_left', true_and, and_true, if_true, if_false, decide_eq_false_iff_not, decide_eq_true_eq, Nat.reduceAdd, Nat.reduceLeDiff, Nat.reduceLT, Int.reduceAdd, Int.reduceSub, Int.reduceMul, Int.reduceNeg, not_true_eq_false, not_false_eq_true]
    rw [k58_1]
    simp +decide (maxSteps := 4000000) (disch := omega) only [k58_0, k58_2, k58_3, k58_5, k58_r, k58_s, F_al1, F_al0, T_I, T_putI, T_putZ, F_is2i, F_is2r, F_is2m, F_is3i, F_is3r, F_is3m, T_ft, F_il2, J_ifeq, F_il3, T_icge, J_icne, T_goto, F_inc3i, F_inc3r, F_inc3m, J_ifne, T_ret, T_getI, c13, c16, c19, c20, c21, c24, c59, c60, c61, ↓s13, ↓s16, ↓s19, ↓s20, ↓s21, ↓s24, ↓reduceIte, TK, lt_run hn, le43, Int.le_refl, Int.lt_irrefl, Option.some.injEq, exists_eq_left', true_and, and_true, if_true, if_false, decide_eq_false_iff_not, decide_eq_true_eq, Nat.reduceAdd, Nat.reduceLeDiff, Nat.reduceLT, Int.reduceAdd, Int.reduceSub, Int.reduceMul, Int.reduceNeg, not_true_eq_false, not_false_eq_true]
    exact fin
theorem z263 (F : FH hr) (hn : 775 ≤ n) {v1 : Int32} {v3 : Value} : ∀ (q : Nat) (p m : Int) (D : Int → Int) (h : AHi), t - p < q → 0 ≤ p → p ≤ t → (0 ≤ m ∧ m ≤ 120) → Rg D → TpM h t b → Rz h 704 42 736 m D →
    (∀ h' p' (v2 : Int32), 0 ≤ p' → p' ≤ 1700 → Ef Sdm h h' → ((rws b t q m p D).1 = -1 → Rz h' 704 42 736 (rws b t q m p D).2.1 (rws b t q m p D).2.2) → Tm E 263 (a_bl 263 9) [.ref 704, .int v1, .int v2, v3] [] (MS h' p' (rws b t q m p D).1) hr n Q) →
    Tm E 263 (a_bl 263 4) [.ref 704, .int v1, .int (J 1), v3] [] (MS h p (-1)) hr n Q := by
  intro q
  induction q with
  | zero => intro p m D h q0 p0 p1; omega
  | succ q ih =>
    intro p m D h q0 p0 p1 hm hD T R kk
    have t1 := T.1
    have t2 := T.2.2.1
    have hbt := bt_r (t := t) T.2.1 p
    have K := one_b (m := m) (p := p) T.1 T.2.1 (by omega) hm.1 hD
    unfold rws at kk
    have after : ∀ h1 w, 0 ≤ w → w ≤ 1700 → Ef Sdm h h1 → ((one b t m p D).1 = -1 → w = (one b t m p D).2.1 ∧ Rz h1 704 42 736 (one b t m p D).2.2.1 (one b t m p D).2.2.2) → Tm E 263 (a_bl 263 6) [.ref 704, .int v1, .int (J 1), v3] [] (MS h1 w (one b t m p D).1) hr n Q := fun h1 w w0 w1 e1 gd => by
      have T1 := T.dm e1
      have t3 := T1.2.2.1
      rw [k263_6]
      generalize one b t m p D = r at *
      by_cases g : r.1 = -1
      · obtain ⟨ep, R1⟩ := gd g
        obtain ⟨⟨u1, u2⟩, ⟨u3, u4⟩, u5⟩ := K.2 g
        rw [if_pos g, ← ep] at kk
        rw [← ep] at u1 u2
        rw [g]
        by_cases g1 : t ≤ w
        · rw [if_pos g1] at kk
          have fin := kk h1 w (J 0) w0 w1 e1 (fun _ => R1)
          simp +decide (maxSteps := 4000000) (disch := omega) only [k263_0, k263_1, k263_2, k263_3, k263_5, k263_6, k263_7, k263_8, k263_9, k263_10, k263_12, k263_r, k263_s, F_al0, F_il1, J_ifne, T_I, T_ret, T_putI, T_putZ, T_getI, J_ifle, T_goto, T_ft, F_is2i, F_is2r, F_is2m, J_ifeq, F_il2, T_icge, T_getR, T_iast, F_is3i, F_is3r, F_is3m, F_il3, T_mul, T_add, X_iald, F_inc3i, F_inc3r, F_inc3m, c217, c221, c225, c226, c264, c265, c266, c267, ↓s221, ↓s225, ↓s226, ↓s264, ↓s265, MX, t3, g1, ↓reduceIte, TK, lt_run hn, le43, Int.le_refl, Int.lt_irrefl, Option.some.injEq, exists_eq_left', true_and, and_true, if_true, if_false, decide_eq_false_iff_not, decide_eq_true_eq, Nat.reduceAdd, Nat.reduceLeDiff, Nat.reduceLT, Int.reduceAdd, Int.reduceSub, Int.reduceMul, Int.reduceNeg, not_true_eq_false, not_false_eq_true]
          rw [k263_4]
          simp +decide (maxSteps := 4000000) (disch := omega) only [k263_0, k263_1, k263_2, k263_3, k263_5, k263_6, k263_7, k263_8, k263_10, k263_12, k263_r, k263_s, F_al0, F_il1, J_ifne, T_I, T_ret, T_putI, T_putZ, T_getI, J_ifle, T_goto, T_ft, F_is2i, F_is2r, F_is2m, J_ifeq, F_il2, T_icge, T_getR, T_iast, F_is3i, F_is3r, F_is3m, F_il3, T_mul, T_add, X_iald, F_inc3i, F_inc3r, F_inc3m, c217, c221, c225, c226, c264, c265, c266, c267, ↓s225, ↓s226, ↓s264, ↓s265, ↓s221 F hn, ↓reduceIte, TK, lt_run hn, le43, Int.le_refl, Int.lt_irrefl, Option.some.injEq, exists_eq_left', true_and, and_true, if_true, if_false, decide_eq_false_iff_not, decide_eq_true_eq, Nat.reduceAdd, Nat.reduceLeDiff, Nat.reduceLT, Int.reduceAdd, Int.reduceSub, Int.reduceMul, Int.reduceNeg, not_true_eq_false, not_false_eq_true]
          exact fin
        · rw [if_neg g1] at kk
          by_cases g2 : bt b t w = 32
          · rw [if_pos g2] at kk
            simp +decide (maxSteps := 4000000) (disch := omega) only [k263_0, k263_1, k263_2, k263_3, k263_5, k263_6, k263_7, k263_8, k263_9, k263_10, k263_12, k263_r, k263_s, F_al0, F_il1, J_ifne, T_I, T_ret, T_putI, T_putZ, T_getI, J_ifle, T_goto, T_ft, F_is2i, F_is2r, F_is2m, J_ifeq, F_il2, T_icge, T_getR, T_iast, F_is3i, F_is3r, F_is3m, F_il3, T_mul, T_add, X_iald, F_inc3i, F_inc3r, F_inc3m, c217, c221, c225, c226, c264, c265, c266, c267, ↓s221, ↓s226, ↓s264, ↓s265, MX, t3, g1, ↓s225 F hn T1, g2, ↓reduceIte, TK, lt_run hn, le43, Int.le_refl, Int.lt_irrefl, Option.some.injEq, exists_eq_left', true_and, and_true, if_true, if_false, decide_eq_false_iff_not, decide_eq_true_eq, Nat.reduceAdd, Nat.reduceLeDiff, Nat.reduceLT, Int.reduceAdd, Int.reduceSub, Int.reduceMul, Int.reduceNeg, not_true_eq_false, not_false_eq_true]
            exact ih (w + 1) _ _ h1 (by omega) (by omega) (by omega) (by omega) u5 T1 R1 (fun h' p' v2 a1 a2 a3 => kk h' p' v2 a1 a2 (e1.trans a3))
          · rw [if_neg g2] at kk
            have f1 : w ≠ -1 := by omega
            have fin := kk h1 w (J 1) w0 w1 e1 (fun z => by dsimp only at z; omega)
            simp +decide (maxSteps := 4000000) (disch := omega) only [k263_0, k263_1, k263_2, k263_3, k263_5, k263_6, k263_7, k263_8, k263_9, k263_10, k263_12, k263_r, k263_s, F_al0, F_il1, J_ifne, T_I, T_ret, T_putI, T_putZ, T_getI, J_ifle, T_goto, T_ft, F_is2i, F_is2r, F_is2m, J_ifeq, F_il2, T_icge, T_getR, T_iast, F_is3i, F_is3r, F_is3m, F_il3, T_mul, T_add, X_iald, F_inc3i, F_inc3r, F_inc3m, c217, c221, c225, c226, c264, c265, c266, c267, ↓s221, ↓s226, ↓s264, ↓s265, MX, t3, g1, ↓s225 F hn T1, g2, rf_y, ↓reduceIte, TK, lt_run hn, le43, Int.le_refl, Int.lt_irrefl, Option.some.injEq, exists_eq_left', true_and, and_true, if_true, if_false, decide_eq_false_iff_not, decide_eq_true_eq, Nat.reduceAdd, Nat.reduceLeDiff, Nat.reduceLT, Int.reduceAdd, Int.reduceSub, Int.reduceMul, Int.reduceNeg, not_true_eq_false, not_false_eq_true]
            rw [k263_4]
            simp +decide (maxSteps := 4000000) (disch := omega) only [k263_0, k263_1, k263_2, k263_3, k263_5, k263_6, k263_7, k263_8, k263_10, k263_12, k263_r, k263_s, F_al0, F_il1, J_ifne, T_I, T_ret, T_putI, T_putZ, T_getI, J_ifle, T_goto, T_ft, F_is2i, F_is2r, F_is2m, J_ifeq, F_il2, T_icge, T_getR, T_iast, F_is3i, F_is3r, F_is3m, F_il3, T_mul, T_add, X_iald, F_inc3i, F_inc3r, F_inc3m, c217, c221, c225, c226, c264, c265, c266, c267, ↓s225, ↓s226, ↓s264, ↓s265, ↓s221 F hn, f1, ↓reduceIte, TK, lt_run hn, le43, Int.le_refl, Int.lt_irrefl, Option.some.injEq, exists_eq_left', true_and, and_true, if_true, if_false, decide_eq_false_iff_not, decide_eq_true_eq, Nat.reduceAdd, Nat.reduceLeDiff, Nat.reduceLT, Int.reduceAdd, Int.reduceSub, Int.reduceMul, Int.reduceNeg, not_true_eq_false, not_false_eq_true]
            exact fin
      · rw [if_neg g] at kk
        have fb := K.1
        by_cases g1 : t ≤ w
        · have fin := kk h1 w (J 0) w0 w1 e1 (fun z => absurd z g)
          simp +decide (maxSteps := 4000000) (disch := omega) only [k263_0, k263_1, k263_2, k263_3, k263_5, k263_6, k263_7, k263_8, k263_9, k263_10, k263_12, k263_r, k263_s, F_al0, F_il1, J_ifne, T_I, T_ret, T_putI, T_putZ, T_getI, J_ifle, T_goto, T_ft, F_is2i, F_is2r, F_is2m, J_ifeq, F_il2, T_icge, T_getR, T_iast, F_is3i, F_is3r, F_is3m, F_il3, T_mul, T_add, X_iald, F_inc3i, F_inc3r, F_inc3m, c217, c221, c225, c226, c264, c265, c266, c267, ↓s221, ↓s225, ↓s226, ↓s264, ↓s265, MX, t3, g1, ↓reduceIte, TK, lt_run hn, le43, Int.le_refl, Int.lt_irrefl, Option.some.injEq, exists_eq_left', true_and, and_true, if_true, if_false, decide_eq_false_iff_not, decide_eq_true_eq, Nat.reduceAdd, Nat.reduceLeDiff, Nat.reduceLT, Int.reduceAdd, Int.reduceSub, Int.reduceMul, Int.reduceNeg, not_true_eq_false, not_false_eq_true]
          rw [k263_4]
          simp +decide (maxSteps := 4000000) (disch := omega) only [k263_0, k263_1, k263_2, k263_3, k263_5, k263_6, k263_7, k263_8, k263_10, k263_12, k263_r, k263_s, F_al0, F_il1, J_ifne, T_I, T_ret, T_putI, T_putZ, T_getI, J_ifle, T_goto, T_ft, F_is2i, F_is2r, F_is2m, J_ifeq, F_il2, T_icge, T_getR, T_iast, F_is3i, F_is3r, F_is3m, F_il3, T_mul, T_add, X_iald, F_inc3i, F_inc3r, F_inc3m, c217, c221, c225, c226, c264, c265, c266, c267, ↓s225, ↓s226, ↓s264, ↓s265, ↓s221 F hn, g, ↓reduceIte, TK, lt_run hn, le43, Int.le_refl, Int.lt_irrefl, Option.some.injEq, exists_eq_left', true_and, and_true, if_true, if_false, decide_eq_false_iff_not, decide_eq_true_eq, Nat.reduceAdd, Nat.reduceLeDiff, Nat.reduceLT, Int.reduceAdd, Int.reduceSub, Int.reduceMul, Int.reduceNeg, not_true_eq_false, not_false_eq_true]
          exact fin
        · have fin := kk h1 w (J 1) w0 w1 e1 (fun z => absurd z g)
          simp +decide (maxSteps := 4000000) (disch := omega) only [k263_0, k263_1, k263_2, k263_3, k263_5, k263_6, k263_7, k263_8, k263_9, k263_10, k263_12, k263_r, k263_s, F_al0, F_il1, J_ifne, T_I, T_ret, T_putI, T_putZ, T_getI, J_ifle, T_goto, T_ft, F_is2i, F_is2r, F_is2m, J_ifeq, F_il2, T_icge, T_getR, T_iast, F_is3i, F_is3r, F_is3m, F_il3, T_mul, T_add, X_iald, F_inc3i, F_inc3r, F_inc3m, c217, c221, c225, c226, c264, c265, c266, c267, ↓s221, ↓s226, ↓s264, ↓s265, MX, t3, g1, ↓s225 F hn T1, g, false_and, rf_n g, ↓reduceIte, TK, lt_run hn, le43, Int.le_refl, Int.lt_irrefl, Option.some.injEq, exists_eq_left', true_and, and_true, if_true, if_false, decide_eq_false_iff_not, decide_eq_true_eq, Nat.reduceAdd, Nat.reduceLeDiff, Nat.reduceLT, Int.reduceAdd, Int.reduceSub, Int.reduceMul, Int.reduceNeg, not_true_eq_false, not_false_eq_true]
          rw [k263_4]
          simp +decide (maxSteps := 4000000) (disch := omega) only [k263_0, k263_1, k263_2, k263_3, k263_5, k263_6, k263_7, k263_8, k263_10, k263_12, k263_r, k263_s, F_al0, F_il1, J_ifne, T_I, T_ret, T_putI, T_putZ, T_getI, J_ifle, T_goto, T_ft, F_is2i, F_is2r, F_is2m, J_ifeq, F_il2, T_icge, T_getR, T_iast, F_is3i, F_is3r, F_is3m, F_il3, T_mul, T_add, X_iald, F_inc3i, F_inc3r, F_inc3m, c217, c221, c225, c226, c264, c265, c266, c267, ↓s225, ↓s226, ↓s264, ↓s265, ↓s221 F hn, g, ↓reduceIte, TK, lt_run hn, le43, Int.le_refl, Int.lt_irrefl, Option.some.injEq, exists_eq_left', true_and, and_true, if_true, if_false, decide_eq_false_iff_not, decide_eq_true_eq, Nat.reduceAdd, Nat.reduceLeDiff, Nat.reduceLT, Int.reduceAdd, Int.reduceSub, Int.reduceMul, Int.reduceNeg, not_true_eq_false, not_false_eq_true]
          exact fin
    unfold one at after
    by_cases g : bt b t p = 40
    · rw [if_pos g] at after
      rw [k263_4]
      simp +decide (maxSteps := 4000000) (disch := omega) only [k263_0, k263_1, k263_2, k263_3, k263_5, k263_7, k263_8, k263_10, k263_12, k263_r, k263_s, F_al0, F_il1, J_ifne, T_I, T_ret, T_putI, T_putZ, T_getI, J_ifle, T_goto, T_ft, F_is2i, F_is2r, F_is2m, J_ifeq, F_il2, T_icge, T_getR, T_iast, F_is3i, F_is3r, F_is3m, F_il3, T_mul, T_add, X_iald, F_inc3i, F_inc3r, F_inc3m, c217, c221, c225, c226, c264, c265, c266, c267, ↓s225, ↓s226, ↓s264, ↓s221 F hn, ↓s265 F hn T, g, ↓reduceIte, TK, lt_run hn, le43, Int.le_refl, Int.lt_irrefl, Option.some.injEq, exists_eq_left', true_and, and_true, if_true, if_false, decide_eq_false_iff_not, decide_eq_true_eq, Nat.reduceAdd, Nat.reduceLeDiff, Nat.reduceLT, Int.reduceAdd, Int.reduceSub, Int.reduceMul, Int.reduceNeg, not_true_eq_false, not_false_eq_true]
      refine w266 (p := p) F hn T R hm hD (by omega) g (fun h1 w w0 w1 e1 mm gd => ?_)
      have fin := after h1 w w0 w1 e1 gd
      simp +decide (maxSteps := 4000000) (disch := omega) only [k263_0, k263_1, k263_2, k263_3, k263_5, k263_7, k263_8, k263_9, k263_10, k263_12, k263_r, k263_s, F_al0, F_il1, J_ifne, T_I, T_ret, T_putI, T_putZ, T_getI, J_ifle, T_goto, T_ft, F_is2i, F_is2r, F_is2m, J_ifeq, F_il2, T_icge, T_getR, T_iast, F_is3i, F_is3r, F_is3m, F_il3, T_mul, T_add, X_iald, F_inc3i, F_inc3r, F_inc3m, c217, c221, c225, c226, c264, c265, c266, c267, ↓s221, ↓s225, ↓s226, ↓s264, ↓s265, ↓reduceIte, TK, lt_run hn, le43, Int.le_refl, Int.lt_irrefl, Option.some.injEq, exists_eq_left', true_and, and_true, if_true, if_false, decide_eq_false_iff_not, decide_eq_true_eq, Nat.reduceAdd, Nat.reduceLeDiff, Nat.reduceLT, Int.reduceAdd, Int.reduceSub, Int.reduceMul, Int.reduceNeg, not_true_eq_false, not_false_eq_true]
      exact fin
    · rw [if_neg g] at after
      rw [k263_4]
      simp +decide (maxSteps := 4000000) (disch := omega) only [k263_0, k263_1, k263_2, k263_3, k263_5, k263_7, k263_8, k263_10, k263_12, k263_r, k263_s, F_al0, F_il1, J_ifne, T_I, T_ret, T_putI, T_putZ, T_getI, J_ifle, T_goto, T_ft, F_is2i, F_is2r, F_is2m, J_ifeq, F_il2, T_icge, T_getR, T_iast, F_is3i, F_is3r, F_is3m, F_il3, T_mul, T_add, X_iald, F_inc3i, F_inc3r, F_inc3m, c217, c221, c225, c226, c264, c265, c266, c267, ↓s225, ↓s226, ↓s264, ↓s221 F hn, ↓s265 F hn T, g, ↓reduceIte, TK, lt_run hn, le43, Int.le_refl, Int.lt_irrefl, Option.some.injEq, exists_eq_left', true_and, and_true, if_true, if_false, decide_eq_false_iff_not, decide_eq_true_eq, Nat.reduceAdd, Nat.reduceLeDiff, Nat.reduceLT, Int.reduceAdd, Int.reduceSub, Int.reduceMul, Int.reduceNeg, not_true_eq_false, not_false_eq_true]
      refine w267 (p := p) F hn T R hm (by omega) (fun h1 w w0 w1 e1 mm gd => ?_)
      have fin := after h1 w w0 w1 e1 gd
      simp +decide (maxSteps := 4000000) (disch := omega) only [k263_0, k263_1, k263_2, k263_3, k263_5, k263_7, k263_8, k263_9, k263_10, k263_12, k263_r, k263_s, F_al0, F_il1, J_ifne, T_I, T_ret, T_putI, T_putZ, T_getI, J_ifle, T_goto, T_ft, F_is2i, F_is2r, F_is2m, J_ifeq, F_il2, T_icge, T_getR, T_iast, F_is3i, F_is3r, F_is3m, F_il3, T_mul, T_add, X_iald, F_inc3i, F_inc3r, F_inc3m, c217, c221, c225, c226, c264, c265, c266, c267, ↓s221, ↓s225, ↓s226, ↓s264, ↓s265, ↓reduceIte, TK, lt_run hn, le43, Int.le_refl, Int.lt_irrefl, Option.some.injEq, exists_eq_left', true_and, and_true, if_true, if_false, decide_eq_false_iff_not, decide_eq_true_eq, Nat.reduceAdd, Nat.reduceLeDiff, Nat.reduceLT, Int.reduceAdd, Int.reduceSub, Int.reduceMul, Int.reduceNeg, not_true_eq_false, not_false_eq_true]
      exact fin
end SE
