/-! The reference's numbers; both readers alike -/
section RM
variable {E : AEn} {h : AHi} {hr : AHr} {n : Nat} {Q : ARs → Prop} {t p f a w : Int} {b : Int → Int}
theorem z220 (F : FH hr) (hn : 775 ≤ n) (T : TpM h t b) {bl lo hi fr mi first : Int32} {fs : Int} (hfs : 0 ≤ fs ∧ fs ≤ 255) (hfirst : first = J fs) : ∀ (k : Nat) (v d a w : Int), d = 10 - k → (0 ≤ a ∧ a ≤ 10000) → w = -1 → (0 ≤ d ∧ d ≤ 9) → (0 ≤ v ∧ v < p10 d) → (d = 0 → v = 0) → (0 < d → fs = 48 → d = 1 ∧ v = 0) → (0 < d → fs ≠ 48 → 0 < v) → (d = 0 → fs = bt b t a) →
    (Tm E 220 (a_bl 220 7) [.ref 704, .int bl, .int lo, .int hi, .int fr, .int mi, .int first, .int (J v), .int (J d)] [] (MS h a w) hr n Q ↔ Tm E 220 (a_bl 220 10) [.ref 704, .int bl, .int lo, .int hi, .int fr, .int mi, .int first, .int (J (dgs b t k v d a w).1), .int (J (dgs b t k v d a w).2.1)] [] (MS h (dgs b t k v d a w).2.2.1 (dgs b t k v d a w).2.2.2) hr n Q) := by
  intro k
  induction k with
  | zero =>
    intro v d a w h1 _ _ h2
    omega
  | succ k ih =>
    intro v d a w hk ha hw hd hv c1 c2 c3 c4
    subst hw
    have h10 := p10_le hd.1 hd.2
    have hb := bt_r (t := t) T.2.1 a
    have hs := p10_s hd.1
    have t1 := T.1
    rw [k220_7]
    simp +decide (maxSteps := 4000000) (disch := omega) only [k220_0, k220_1, k220_2, k220_3, k220_4, k220_5, k220_6, k220_8, k220_9, k220_11, k220_12, k220_13, k220_14, k220_15, k220_16, k220_17, k220_18, k220_r, k220_s, F_al0, J_ifne, F_il2, T_ret, T_getI, F_is4i, F_is4r, F_is4m, F_il1, J_ifeq, T_I, J_icne, T_goto, T_ft, F_is5i, F_is5r, F_is5m, F_il5, T_dupI, T_dupR, T_add, T_putI, T_putZ, F_is6i, F_is6r, F_is6m, F_is7i, F_is7r, F_is7m, F_is8i, F_is8r, F_is8m, F_il8, T_iceq, J_ifle, F_il6, F_il7, T_mul, T_sub, F_inc8i, F_inc8r, F_inc8m, T_neg, T_iclt, F_il3, T_icle, F_il4, c221, c222, c223, c224, ↓s223, MX, ↓s221 F hn, ↓s222 F hn T, ↓s224 F hn, hfirst, TK, lt_run hn, Option.some.injEq, exists_eq_left', true_and, and_true, if_true, if_false, decide_eq_false_iff_not, decide_eq_true_eq, Nat.reduceAdd, Nat.reduceLeDiff, Nat.reduceLT, Int.reduceAdd, Int.reduceSub, Int.reduceMul, Int.reduceNeg, not_true_eq_false, not_false_eq_true]
    by_cases h2 : 48 ≤ bt b t a ∧ bt b t a ≤ 57
    · have h3 := bt_in (b := b) (t := t) (i := a) (by omega)
      unfold dgs
      rw [if_pos (⟨rfl, h2⟩ : (-1 : Int) = -1 ∧ 48 ≤ bt b t a ∧ bt b t a ≤ 57)]
      simp only [h2, not_true_eq_false, if_false, and_self]
      by_cases h4 : d = 9 ∨ d = 1 ∧ v = 0
      · rw [if_pos h4, dgs_f (show a ≠ -1 by omega)]
        have e3 : rf (-1) a = a := rfl
        have key : Tm E 220 (a_bl 220 7) [.ref 704, .int bl, .int lo, .int hi, .int fr, .int mi, .int (J fs), .int (J v), .int (J d)] [] (MS h a a) hr n Q ↔ Tm E 220 (a_bl 220 10) [.ref 704, .int bl, .int lo, .int hi, .int fr, .int mi, .int (J fs), .int (J v), .int (J d)] [] (MS h a a) hr n Q := by
          rw [k220_7]
          simp +decide (maxSteps := 4000000) (disch := omega) only [k220_0, k220_1, k220_2, k220_3, k220_4, k220_5, k220_6, k220_8, k220_9, k220_11, k220_12, k220_13, k220_14, k220_15, k220_16, k220_17, k220_18, k220_r, k220_s, F_al0, J_ifne, F_il2, T_ret, T_getI, F_is4i, F_is4r, F_is4m, F_il1, J_ifeq, T_I, J_icne, T_goto, T_ft, F_is5i, F_is5r, F_is5m, F_il5, T_dupI, T_dupR, T_add, T_putI, T_putZ, F_is6i, F_is6r, F_is6m, F_is7i, F_is7r, F_is7m, F_is8i, F_is8r, F_is8m, F_il8, T_iceq, J_ifle, F_il6, F_il7, T_mul, T_sub, F_inc8i, F_inc8r, F_inc8m, T_neg, T_iclt, F_il3, T_icle, F_il4, c221, c222, c223, c224, ↓s223, MX, ↓s221 F hn, ↓s222 F hn T, ↓s224 F hn, TK, lt_run hn, Option.some.injEq, exists_eq_left', true_and, and_true, if_true, if_false, decide_eq_false_iff_not, decide_eq_true_eq, Nat.reduceAdd, Nat.reduceLeDiff, Nat.reduceLT, Int.reduceAdd, Int.reduceSub, Int.reduceMul, Int.reduceNeg, not_true_eq_false, not_false_eq_true]
          simp only [h2, show ¬ a = -1 by omega, not_true_eq_false, not_false_eq_true, if_true, if_false, and_self]
        by_cases h5 : d = 9
        · subst h5
          simp only [if_true, e3]
          exact key
        · have h6 : d = 1 ∧ v = 0 := by omega
          have h7 : fs = 48 := by
            by_cases q : fs = 48
            · exact q
            · have := c3 (by omega) q
              omega
          simp only [h5, if_false, show ¬ d ≤ 0 by omega, h7, e3, if_true] at key ⊢
          exact key
      · rw [if_neg h4]
        have e2 := ih (v * 10 + bt b t a - 48) (d + 1) (a + 1) (-1) (by omega) (by omega) rfl (by omega) (by omega) (by omega) (fun q1 q2 => by
          by_cases q : d = 0
          · have := c1 q
            have := c4 q
            omega
          · have := c2 (by omega) q2
            omega) (fun q1 q2 => by
          by_cases q : d = 0
          · have := c1 q
            have := c4 q
            omega
          · have := c3 (by omega) q2
            omega) (by omega)
        rw [hfirst] at e2
        rw [← e2]
        rw [if_neg (show ¬ d = 9 by omega)]
        rw [show 10 * v + bt b t a - 48 = v * 10 + bt b t a - 48 by omega]
        by_cases h5 : d ≤ 0
        · rw [if_pos h5]
        · rw [if_neg h5]
          have h6 : ¬ fs = 48 := fun q => by
            have := c2 (by omega) q
            omega
          rw [if_neg h6]
    · have e0 : dgs b t (k + 1) v d a (-1) = (v, d, a, -1) := by
        unfold dgs
        exact if_neg (fun q => h2 q.2)
      rw [e0]
      simp only [h2, not_true_eq_false, not_false_eq_true, if_false, if_true]
/-- number: value, place, fault -/
def numM (b : Int → Int) (t : Int) (bl : Bool) (lo hi a w : Int) : Int × Int × Int :=
  if w = -1 then
    let mi : Bool := bl && decide (bt b t a = 45)
    let a1 := if mi = true then a + 1 else a
    if ¬ (48 ≤ bt b t a1 ∧ bt b t a1 ≤ 57) ∨ (mi = true ∧ bt b t a1 = 48) then (lo, a1, a1)
    else
      let g := dgs b t 10 0 0 a1 (-1)
      if g.2.2.2 = -1 then
        let v := if mi = true then -g.1 else g.1
        if v < lo ∨ hi < v then (lo, g.2.2.1, a) else (v, g.2.2.1, -1)
      else (lo, g.2.2.1, g.2.2.2)
  else (lo, a, w)
theorem s220 (F : FH hr) (hn : 775 ≤ n) (T : TpM h t b) (ha : 0 ≤ a ∧ a ≤ 9999) (hw : w = -1 ∨ 0 ≤ w ∧ w ≤ 10000) {bl : Bool} {lo hi : Int} (hl : -1000000000 ≤ lo ∧ lo ≤ 1000000000) (hh : -1000000000 ≤ hi ∧ hi ≤ 1000000000) : Sp E 220 [.ref 704, .int (Bz bl), .int (J lo), .int (J hi)] (MS h a w) hr n Q ↔ Q (some (.int (J (numM b t bl lo hi a w).1)), MS h (numM b t bl lo hi a w).2.1 (numM b t bl lo hi a w).2.2, hr, n) := by
  have t1 := T.1
  unfold numM
  by_cases e0 : w = -1
  · subst e0
    rw [if_pos rfl]
    have hb := bt_r (t := t) T.2.1 a
    have main : ∀ (mi : Bool) (a1 : Int), (0 ≤ a1 ∧ a1 ≤ 10000) → (Tm E 220 (a_bl 220 4) [.ref 704, .int (Bz bl), .int (J lo), .int (J hi), .int (J a), .int (Bz mi), a_mk, a_mk, a_mk] [] (MS h a1 (-1)) hr n Q ↔
        if ¬ (48 ≤ bt b t a1 ∧ bt b t a1 ≤ 57) ∨ (mi = true ∧ bt b t a1 = 48) then Q (some (.int (J lo)), MS h a1 a1, hr, n) else
          if (dgs b t 10 0 0 a1 (-1)).2.2.2 = -1 then
            (if (if mi = true then -(dgs b t 10 0 0 a1 (-1)).1 else (dgs b t 10 0 0 a1 (-1)).1) < lo ∨ hi < (if mi = true then -(dgs b t 10 0 0 a1 (-1)).1 else (dgs b t 10 0 0 a1 (-1)).1) then Q (some (.int (J lo)), MS h (dgs b t 10 0 0 a1 (-1)).2.2.1 a, hr, n) else Q (some (.int (J (if mi = true then -(dgs b t 10 0 0 a1 (-1)).1 else (dgs b t 10 0 0 a1 (-1)).1))), MS h (dgs b t 10 0 0 a1 (-1)).2.2.1 (-1), hr, n))
          else Q (some (.int (J lo)), MS h (dgs b t 10 0 0 a1 (-1)).2.2.1 (dgs b t 10 0 0 a1 (-1)).2.2.2, hr, n)) := by
      intro mi a1 ha1
      have hb1 := bt_r (t := t) T.2.1 a1
      have hg := dgs_b (t := t) T.2.1 10 0 0 a1 (-1) (by omega) (by decide) ha1.1
      simp +decide (maxSteps := 4000000) (disch := omega) only [k220_0, k220_1, k220_2, k220_3, k220_4, k220_5, k220_6, k220_8, k220_9, k220_10, k220_11, k220_12, k220_13, k220_14, k220_15, k220_16, k220_17, k220_18, k220_r, k220_s, F_al0, J_ifne, F_il2, T_ret, T_getI, F_is4i, F_is4r, F_is4m, F_il1, J_ifeq, T_I, J_icne, T_goto, T_ft, F_is5i, F_is5r, F_is5m, F_il5, T_dupI, T_dupR, T_add, T_putI, T_putZ, F_is6i, F_is6r, F_is6m, F_is7i, F_is7r, F_is7m, F_is8i, F_is8r, F_is8m, F_il8, T_iceq, J_ifle, F_il6, F_il7, T_mul, T_sub, F_inc8i, F_inc8r, F_inc8m, T_neg, T_iclt, F_il3, T_icle, F_il4, c221, c222, c223, c224, ↓s223, MX, ↓s221 F hn, ↓s222 F hn T, ↓s224 F hn, TK, lt_run hn, Option.some.injEq, exists_eq_left', true_and, and_true, if_true, if_false, decide_eq_false_iff_not, decide_eq_true_eq, Nat.reduceAdd, Nat.reduceLeDiff, Nat.reduceLT, Int.reduceAdd, Int.reduceSub, Int.reduceMul, Int.reduceNeg, not_true_eq_false, not_false_eq_true]
      have loop : (48 ≤ bt b t a1 ∧ bt b t a1 ≤ 57) → (Tm E 220 (a_bl 220 7) [.ref 704, .int (Bz bl), .int (J lo), .int (J hi), .int (J a), .int (Bz mi), .int (J (bt b t a1)), .int (J 0), .int (J 0)] [] (MS h a1 (-1)) hr n Q ↔ if (dgs b t 10 0 0 a1 (-1)).2.2.2 = -1 then
            (if (if mi = true then -(dgs b t 10 0 0 a1 (-1)).1 else (dgs b t 10 0 0 a1 (-1)).1) < lo ∨ hi < (if mi = true then -(dgs b t 10 0 0 a1 (-1)).1 else (dgs b t 10 0 0 a1 (-1)).1) then Q (some (.int (J lo)), MS h (dgs b t 10 0 0 a1 (-1)).2.2.1 a, hr, n) else Q (some (.int (J (if mi = true then -(dgs b t 10 0 0 a1 (-1)).1 else (dgs b t 10 0 0 a1 (-1)).1))), MS h (dgs b t 10 0 0 a1 (-1)).2.2.1 (-1), hr, n))
          else Q (some (.int (J lo)), MS h (dgs b t 10 0 0 a1 (-1)).2.2.1 (dgs b t 10 0 0 a1 (-1)).2.2.2, hr, n)) := by
        intro hdig
        rw [z220 F hn T (fs := bt b t a1) (by omega) rfl 10 0 0 a1 (-1) (by omega) ha1 rfl (by omega) (by decide) (by omega) (by omega) (by omega) (by omega)]
        generalize dgs b t 10 0 0 a1 (-1) = g at hg ⊢
        by_cases e1 : g.2.2.2 = -1
        · rw [if_pos e1, e1]
          cases mi with
          | false =>
            simp +decide (maxSteps := 4000000) (disch := omega) only [k220_0, k220_1, k220_2, k220_3, k220_4, k220_5, k220_6, k220_8, k220_9, k220_10, k220_11, k220_12, k220_13, k220_14, k220_15, k220_16, k220_17, k220_18, k220_r, k220_s, F_al0, J_ifne, F_il2, T_ret, T_getI, F_is4i, F_is4r, F_is4m, F_il1, J_ifeq, T_I, J_icne, T_goto, T_ft, F_is5i, F_is5r, F_is5m, F_il5, T_dupI, T_dupR, T_add, T_putI, T_putZ, F_is6i, F_is6r, F_is6m, F_is7i, F_is7r, F_is7m, F_is8i, F_is8r, F_is8m, F_il8, T_iceq, J_ifle, F_il6, F_il7, T_mul, T_sub, F_inc8i, F_inc8r, F_inc8m, T_neg, T_iclt, F_il3, T_icle, F_il4, c221, c222, c223, c224, ↓s223, MX, ↓s221 F hn, ↓s224 F hn, show ∀ x, rf (-1) x = x from fun _ => rfl, TK, lt_run hn, Option.some.injEq, exists_eq_left', true_and, and_true, if_true, if_false, decide_eq_false_iff_not, decide_eq_true_eq, Nat.reduceAdd, Nat.reduceLeDiff, Nat.reduceLT, Int.reduceAdd, Int.reduceSub, Int.reduceMul, Int.reduceNeg, not_true_eq_false, not_false_eq_true]
            by_cases q1 : g.1 < lo
            · simp only [q1, if_true, true_or]
            · by_cases q2 : hi < g.1
              · simp only [q1, q2, if_true, if_false, or_true, show ¬ g.1 ≤ hi by omega]
              · simp only [q1, q2, if_true, if_false, or_false, show g.1 ≤ hi by omega]
          | true =>
            simp +decide (maxSteps := 4000000) (disch := omega) only [k220_0, k220_1, k220_2, k220_3, k220_4, k220_5, k220_6, k220_8, k220_9, k220_10, k220_11, k220_12, k220_13, k220_14, k220_15, k220_16, k220_17, k220_18, k220_r, k220_s, F_al0, J_ifne, F_il2, T_ret, T_getI, F_is4i, F_is4r, F_is4m, F_il1, J_ifeq, T_I, J_icne, T_goto, T_ft, F_is5i, F_is5r, F_is5m, F_il5, T_dupI, T_dupR, T_add, T_putI, T_putZ, F_is6i, F_is6r, F_is6m, F_is7i, F_is7r, F_is7m, F_is8i, F_is8r, F_is8m, F_il8, T_iceq, J_ifle, F_il6, F_il7, T_mul, T_sub, F_inc8i, F_inc8r, F_inc8m, T_neg, T_iclt, F_il3, T_icle, F_il4, c221, c222, c223, c224, ↓s223, MX, ↓s221 F hn, ↓s224 F hn, show ∀ x, rf (-1) x = x from fun _ => rfl, TK, lt_run hn, Option.some.injEq, exists_eq_left', true_and, and_true, if_true, if_false, decide_eq_false_iff_not, decide_eq_true_eq, Nat.reduceAdd, Nat.reduceLeDiff, Nat.reduceLT, Int.reduceAdd, Int.reduceSub, Int.reduceMul, Int.reduceNeg, not_true_eq_false, not_false_eq_true]
            by_cases q1 : -g.1 < lo
            · simp only [q1, if_true, true_or]
            · by_cases q2 : hi < -g.1
              · simp only [q1, q2, if_true, if_false, or_true, show ¬ -g.1 ≤ hi by omega]
              · simp only [q1, q2, if_true, if_false, or_false, show -g.1 ≤ hi by omega]
        · rw [if_neg e1]
          simp +decide (maxSteps := 4000000) (disch := omega) only [k220_0, k220_1, k220_2, k220_3, k220_4, k220_5, k220_6, k220_8, k220_9, k220_10, k220_11, k220_12, k220_13, k220_14, k220_15, k220_16, k220_17, k220_18, k220_r, k220_s, F_al0, J_ifne, F_il2, T_ret, T_getI, F_is4i, F_is4r, F_is4m, F_il1, J_ifeq, T_I, J_icne, T_goto, T_ft, F_is5i, F_is5r, F_is5m, F_il5, T_dupI, T_dupR, T_add, T_putI, T_putZ, F_is6i, F_is6r, F_is6m, F_is7i, F_is7r, F_is7m, F_is8i, F_is8r, F_is8m, F_il8, T_iceq, J_ifle, F_il6, F_il7, T_mul, T_sub, F_inc8i, F_inc8r, F_inc8m, T_neg, T_iclt, F_il3, T_icle, F_il4, c221, c222, c223, c224, ↓s223, MX, ↓s221 F hn, ↓s224 F hn, TK, lt_run hn, Option.some.injEq, exists_eq_left', true_and, and_true, if_true, if_false, decide_eq_false_iff_not, decide_eq_true_eq, Nat.reduceAdd, Nat.reduceLeDiff, Nat.reduceLT, Int.reduceAdd, Int.reduceSub, Int.reduceMul, Int.reduceNeg, not_true_eq_false, not_false_eq_true]
          simp only [e1, not_false_eq_true, if_true]
      by_cases e1 : 48 ≤ bt b t a1 ∧ bt b t a1 ≤ 57
      · simp only [e1, not_true_eq_false, if_false, false_or, and_self]
        by_cases e2 : mi = true
        · simp only [e2, if_false, true_and, Bool.true_eq_false]
          by_cases e3 : bt b t a1 = 48
          · simp only [e3, if_true]
            exact Iff.rfl
          · rw [if_neg e3, if_neg e3]
            have := loop e1
            simp only [e2, if_true] at this
            exact this
        · have e4 : mi = false := by cases mi <;> simp_all
          subst e4
          simp only [if_true, Bool.false_eq_true, false_and, if_false]
          have := loop e1
          simp only [Bool.false_eq_true, if_false] at this
          exact this
      · simp only [e1, not_false_eq_true, if_true, true_or]
        exact Iff.rfl
    cases bl with
    | false =>
      have m1 := main false a (by omega)
      simp +decide (maxSteps := 4000000) (disch := omega) only [k220_0, k220_1, k220_2, k220_3, k220_5, k220_6, k220_8, k220_9, k220_10, k220_11, k220_12, k220_13, k220_14, k220_15, k220_16, k220_17, k220_18, k220_r, k220_s, F_al0, J_ifne, F_il2, T_ret, T_getI, F_is4i, F_is4r, F_is4m, F_il1, J_ifeq, T_I, J_icne, T_goto, T_ft, F_is5i, F_is5r, F_is5m, F_il5, T_dupI, T_dupR, T_add, T_putI, T_putZ, F_is6i, F_is6r, F_is6m, F_is7i, F_is7r, F_is7m, F_is8i, F_is8r, F_is8m, F_il8, T_iceq, J_ifle, F_il6, F_il7, T_mul, T_sub, F_inc8i, F_inc8r, F_inc8m, T_neg, T_iclt, F_il3, T_icle, F_il4, c221, c222, c223, c224, ↓s223, MX, ↓s221 F hn, ↓s222 F hn T, ↓s224 F hn, TK, lt_run hn, Option.some.injEq, exists_eq_left', true_and, and_true, if_true, if_false, decide_eq_false_iff_not, decide_eq_true_eq, Nat.reduceAdd, Nat.reduceLeDiff, Nat.reduceLT, Int.reduceAdd, Int.reduceSub, Int.reduceMul, Int.reduceNeg, not_true_eq_false, not_false_eq_true]
      refine m1.trans ?_
      simp only [Bool.false_and, Bool.false_eq_true, if_false, false_and, or_false]
      repeat' split
      all_goals exact Iff.rfl
    | true =>
      simp +decide (maxSteps := 4000000) (disch := omega) only [k220_0, k220_1, k220_2, k220_3, k220_5, k220_6, k220_8, k220_9, k220_10, k220_11, k220_12, k220_13, k220_14, k220_15, k220_16, k220_17, k220_18, k220_r, k220_s, F_al0, J_ifne, F_il2, T_ret, T_getI, F_is4i, F_is4r, F_is4m, F_il1, J_ifeq, T_I, J_icne, T_goto, T_ft, F_is5i, F_is5r, F_is5m, F_il5, T_dupI, T_dupR, T_add, T_putI, T_putZ, F_is6i, F_is6r, F_is6m, F_is7i, F_is7r, F_is7m, F_is8i, F_is8r, F_is8m, F_il8, T_iceq, J_ifle, F_il6, F_il7, T_mul, T_sub, F_inc8i, F_inc8r, F_inc8m, T_neg, T_iclt, F_il3, T_icle, F_il4, c221, c222, c223, c224, ↓s223, MX, ↓s221 F hn, ↓s222 F hn T, ↓s224 F hn, TK, lt_run hn, Option.some.injEq, exists_eq_left', true_and, and_true, if_true, if_false, decide_eq_false_iff_not, decide_eq_true_eq, Nat.reduceAdd, Nat.reduceLeDiff, Nat.reduceLT, Int.reduceAdd, Int.reduceSub, Int.reduceMul, Int.reduceNeg, not_true_eq_false, not_false_eq_true]
      by_cases e1 : bt b t a = 45
      · simp only [e1, if_true, Bool.true_and, decide_true]
        refine (main true (a + 1) (by omega)).trans ?_
        simp only [if_true, true_and]
        repeat' split
        all_goals exact Iff.rfl
      · simp only [e1, if_false, Bool.true_and, decide_false, Bool.false_eq_true, false_and, or_false]
        refine (main false a (by omega)).trans ?_
        simp only [Bool.false_eq_true, if_false, false_and, or_false]
        repeat' split
        all_goals exact Iff.rfl
  · rw [if_neg e0]
    simp +decide (maxSteps := 4000000) (disch := omega) only [k220_0, k220_1, k220_2, k220_3, k220_4, k220_5, k220_6, k220_8, k220_9, k220_10, k220_11, k220_12, k220_13, k220_14, k220_15, k220_16, k220_17, k220_18, k220_r, k220_s, F_al0, J_ifne, F_il2, T_ret, T_getI, F_is4i, F_is4r, F_is4m, F_il1, J_ifeq, T_I, J_icne, T_goto, T_ft, F_is5i, F_is5r, F_is5m, F_il5, T_dupI, T_dupR, T_add, T_putI, T_putZ, F_is6i, F_is6r, F_is6m, F_is7i, F_is7r, F_is7m, F_is8i, F_is8r, F_is8m, F_il8, T_iceq, J_ifle, F_il6, F_il7, T_mul, T_sub, F_inc8i, F_inc8r, F_inc8m, T_neg, T_iclt, F_il3, T_icle, F_il4, c221, c222, c223, c224, ↓s222, ↓s223, ↓s224, MX, ↓s221 F hn, e0, TK, lt_run hn, Option.some.injEq, exists_eq_left', true_and, and_true, if_true, if_false, decide_eq_false_iff_not, decide_eq_true_eq, Nat.reduceAdd, Nat.reduceLeDiff, Nat.reduceLT, Int.reduceAdd, Int.reduceSub, Int.reduceMul, Int.reduceNeg, not_true_eq_false, not_false_eq_true]
end RM
