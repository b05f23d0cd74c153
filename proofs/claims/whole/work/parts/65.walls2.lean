/-! WALLS of the reference -/
section WM
variable {E : AEn} {h h' : AHi} {hr : AHr} {n : Nat} {Q : ARs → Prop} {f : Int → Int} {l : List (Int × Int)} {g : Int}
theorem sqn (a : Int) : 0 ≤ a * a := by
  rcases Int.le_total 0 a with h | h
  · exact Int.mul_nonneg h h
  · have h1 : 0 ≤ (-a) * (-a) := Int.mul_nonneg (by omega) (by omega)
    rwa [Int.neg_mul_neg] at h1
theorem bool_1 : a_bool (J 1) = J 1 := by decide
theorem bool_0 : a_bool (J 0) = J 0 := by decide
def EM (h : AHi) (l : List (Int × Int)) : Prop := ∀ (i : Nat) (e : Int × Int), l[i]? = some e → gA h 731 i = J e.1 ∧ gA h 732 i = J e.2
theorem EM.en (L : EM h l) {i : Int} (i0 : 0 ≤ i) (i1 : i < l.length) : gA h 731 i = J (en l i).1 ∧ gA h 732 i = J (en l i).2 := by
  have := L i.toNat _ (en_m i0 i1)
  rwa [show ((i.toNat : Nat) : Int) = i by omega] at this
theorem EM.ef {S : Nat → Nat → Prop} (L : EM h l) (e : Ef S h h') (hs : ∀ a k, a = 731 ∨ a = 732 → ¬ S a k) : EM h' l := fun i q hq => by
  rw [e.g (hs _ _ (Or.inl rfl)), e.g (hs _ _ (Or.inr rfl))]
  exact L i q hq
def Sw7 (a k : Nat) : Prop := a = 728 ∨ (a = 704 ∧ (k = 16 ∨ k = 17))
theorem z255l (F : FH hr) (hn : 775 ≤ n) {v1 v3 v6 v7 v8 : Value} {i j ax ay bx bY : Int} (hi : 0 ≤ i ∧ i < 16) (hj : 0 ≤ j ∧ j < 16) (h1 : onP ax ay) (h2 : onP bx bY) (c1 : gA h 731 i = J ax ∧ gA h 732 i = J ay) (c2 : gA h 731 j = J bx ∧ gA h 732 j = J bY) (P : PB h 728 f)
    (k : ∀ h' v10, PB h' 728 (lin f 1 ax ay bx bY) → Ef Sw7 h h' → Tm E 255 (a_bl 255 13) [.ref 704, v1, .int (J g), v3, .int (J i), .int (J j), v6, v7, v8, .int (J (stp (bx - ax) (bY - ay))), v10] [] h' hr n Q) :
    Tm E 255 (a_bl 255 12) [.ref 704, v1, .int (J g), v3, .int (J i), .int (J j), v6, v7, v8, .int (J (stp (bx - ax) (bY - ay))), .int (J 0)] [] h hr n Q := by
  obtain ⟨p1, p2⟩ := id h1
  obtain ⟨p3, p4⟩ := id h2
  have sr := stp_r (bx - ax) (bY - ay)
  have sm := stp_m (dx := bx - ax) (dy := bY - ay) (A := 47) (by omega) (by omega)
  refine T_for (σ := Unit) (fun m _ => [.ref 704, v1, .int (J g), v3, .int (J i), .int (J j), v6, v7, v8, .int (J (stp (bx - ax) (bY - ay))), .int (J m)]) (fun m _ h' => Ef Sw7 h h' ∧ PB h' 728 (ldr f 1 ax ay bx bY m.toNat)) 0 (stp (bx - ax) (bY - ay) + 1) ?_ ?_ 0 () h (by omega) (by omega) ⟨Ef.refl, P⟩
  · rintro m _ h3 m0 m1 ⟨e3, P3⟩ ih
    have lo := ln_on h1 h2 (k := m) (by omega)
    have ls := ldr_s (f := f) (v := 1) (ax := ax) (ay := ay) (bx := bx) (bY := bY) m0
    have lc := lnq_c ax ay bx bY m
    have g1 : gA h3 731 i = J ax ∧ gA h3 732 i = J ay := by
      rw [e3.g (by unfold Sw7; omega), e3.g (by unfold Sw7; omega)]
      exact c1
    have g2 : gA h3 731 j = J bx ∧ gA h3 732 j = J bY := by
      rw [e3.g (by unfold Sw7; omega), e3.g (by unfold Sw7; omega)]
      exact c2
    have q16 : ∀ (u v : Int32), hI (hI h3 704 16 u) 704 17 v 704 16 = u := fun u v => by rw [hI_k (by decide), hI_s]
    rw [k255_12]
    simp +decide (maxSteps := 4000000) (disch := omega) only [k255_0, k255_2, k255_3, k255_4, k255_6, k255_7, k255_8, k255_11, k255_13, k255_14, k255_15, k255_r, k255_s, T_I, F_is3i, F_is3r, F_is3m, T_ft, F_il3, T_icge, F_al0, T_getR, X_iald, J_ifle, T_goto, T_bast, F_inc3i, F_inc3r, F_inc3m, F_is4i, F_is4r, F_is4m, F_il4, F_il1, T_mul, F_is5i, F_is5r, F_is5m, T_add, T_sub, F_is6i, F_is6r, F_is6m, F_il5, F_il6, J_icne, T_iast, F_inc4i, F_inc4r, F_inc4m, F_is7i, F_is7r, F_is7m, F_il7, F_is8i, F_is8r, F_is8m, F_il8, J_ifeq, F_il2, T_icle, F_is9i, F_is9r, F_is9m, F_is10i, F_is10r, F_is10m, F_il10, F_il9, T_icgt, T_getI, F_inc10i, F_inc10r, F_inc10m, F_inc5i, F_inc5r, F_inc5m, T_ret, c239, c242, ↓s239, FM F, ln_728, ln_731, ln_732, g1, g2, q16, hI_s, ↓s242 hn, lc, kd_704, true_or, or_true, bool_1, show ¬ stp (bx - ax) (bY - ay) < m by omega, TK, lt_run hn, le43, Int.le_refl, Int.lt_irrefl, Option.some.injEq, exists_eq_left', true_and, and_true, if_true, if_false, decide_eq_false_iff_not, decide_eq_true_eq, Nat.reduceAdd, Nat.reduceLeDiff, Nat.reduceLT, Int.reduceAdd, Int.reduceSub, Int.reduceMul, Int.reduceNeg, not_true_eq_false, not_false_eq_true]
    refine ih () _ ⟨((e3.hI (Or.inr ⟨rfl, Or.inl rfl⟩)).hI (Or.inr ⟨rfl, Or.inr rfl⟩)).sA (Or.inl rfl), ?_⟩
    rw [ls]
    have P4 : PB (hI (hI h3 704 16 (J (lnp ax (bx - ax) (stp (bx - ax) (bY - ay)) m))) 704 17 (J (lnp ay (bY - ay) (stp (bx - ax) (bY - ay)) m))) 728 (ldr f 1 ax ay bx bY m.toNat) := P3.ef (S := fun a k => a = 704) (Ef.hI (Ef.hI Ef.refl rfl) rfl) (fun k => by decide)
    exact P4.set (by omega) (by decide)
  · rintro _ h3 ⟨e3, P3⟩
    rw [k255_12]
    simp +decide (maxSteps := 4000000) (disch := omega) only [k255_0, k255_2, k255_3, k255_4, k255_6, k255_7, k255_8, k255_11, k255_14, k255_15, k255_r, k255_s, T_I, F_is3i, F_is3r, F_is3m, T_ft, F_il3, T_icge, F_al0, T_getR, X_iald, J_ifle, T_goto, T_bast, F_inc3i, F_inc3r, F_inc3m, F_is4i, F_is4r, F_is4m, F_il4, F_il1, T_mul, F_is5i, F_is5r, F_is5m, T_add, T_sub, F_is6i, F_is6r, F_is6m, F_il5, F_il6, J_icne, T_iast, F_inc4i, F_inc4r, F_inc4m, F_is7i, F_is7r, F_is7m, F_il7, F_is8i, F_is8r, F_is8m, F_il8, J_ifeq, F_il2, T_icle, F_is9i, F_is9r, F_is9m, F_is10i, F_is10r, F_is10m, F_il10, F_il9, T_icgt, T_getI, F_inc10i, F_inc10r, F_inc10m, F_inc5i, F_inc5r, F_inc5m, T_ret, c239, c242, ↓s239, ↓s242, show stp (bx - ax) (bY - ay) < stp (bx - ax) (bY - ay) + 1 by omega, TK, lt_run hn, le43, Int.le_refl, Int.lt_irrefl, Option.some.injEq, exists_eq_left', true_and, and_true, if_true, if_false, decide_eq_false_iff_not, decide_eq_true_eq, Nat.reduceAdd, Nat.reduceLeDiff, Nat.reduceLT, Int.reduceAdd, Int.reduceSub, Int.reduceMul, Int.reduceNeg, not_true_eq_false, not_false_eq_true]
    exact k h3 _ P3 e3
/-- the last two loops -/
theorem z255w (F : FH hr) (hn : 775 ≤ n) {v1 : Value} (hg : 0 ≤ g ∧ g ≤ 8) (L : EM h l) (hl : l.length ≤ 16) (ho : ∀ e ∈ l, onP e.1 e.2) (P : PB h 728 f) (v5 v6 v7 v8 v9 v10 : Value)
    (k : ∀ h', PB h' 728 (wlI f l g l.length) → Ef Sw7 h h' → Q (none, h', hr, n)) :
    Tm E 255 (a_bl 255 9) [.ref 704, v1, .int (J g), .int (J l.length), .int (J 0), v5, v6, v7, v8, v9, v10] [] h hr n Q := by
  refine T_for (σ := Value × Value × Value × Value × Value × Value) (fun i v => [.ref 704, v1, .int (J g), .int (J l.length), .int (J i), v.1, v.2.1, v.2.2.1, v.2.2.2.1, v.2.2.2.2.1, v.2.2.2.2.2]) (fun i v h' => Ef Sw7 h h' ∧ PB h' 728 (wlI f l g i.toNat)) 0 l.length ?_ ?_ 0 (v5, v6, v7, v8, v9, v10) h (by omega) (by omega) ⟨Ef.refl, P⟩
  · rintro i ⟨v5, v6, v7, v8, v9, v10⟩ h2 i0 i1 ⟨e2, P2⟩ ih
    dsimp only
    rw [k255_9]
    simp +decide (maxSteps := 4000000) (disch := omega) only [k255_0, k255_2, k255_3, k255_4, k255_6, k255_7, k255_8, k255_11, k255_13, k255_14, k255_15, k255_r, k255_s, T_I, F_is3i, F_is3r, F_is3m, T_ft, F_il3, T_icge, F_al0, T_getR, X_iald, J_ifle, T_goto, T_bast, F_inc3i, F_inc3r, F_inc3m, F_is4i, F_is4r, F_is4m, F_il4, F_il1, T_mul, F_is5i, F_is5r, F_is5m, T_add, T_sub, F_is6i, F_is6r, F_is6m, F_il5, F_il6, J_icne, T_iast, F_inc4i, F_inc4r, F_inc4m, F_is7i, F_is7r, F_is7m, F_il7, F_is8i, F_is8r, F_is8m, F_il8, J_ifeq, F_il2, T_icle, F_is9i, F_is9r, F_is9m, F_is10i, F_is10r, F_is10m, F_il10, F_il9, T_icgt, T_getI, F_inc10i, F_inc10r, F_inc10m, F_inc5i, F_inc5r, F_inc5m, T_ret, c239, c242, ↓s239, ↓s242, show ¬ (l.length : Int) ≤ i by omega, TK, lt_run hn, le43, Int.le_refl, Int.lt_irrefl, Option.some.injEq, exists_eq_left', true_and, and_true, if_true, if_false, decide_eq_false_iff_not, decide_eq_true_eq, Nat.reduceAdd, Nat.reduceLeDiff, Nat.reduceLT, Int.reduceAdd, Int.reduceSub, Int.reduceMul, Int.reduceNeg, not_true_eq_false, not_false_eq_true]
    refine T_for (σ := Value × Value × Value × Value × Value) (fun j v => [.ref 704, v1, .int (J g), .int (J l.length), .int (J i), .int (J j), v.1, v.2.1, v.2.2.1, v.2.2.2.1, v.2.2.2.2]) (fun j v h' => Ef Sw7 h h' ∧ PB h' 728 (wlJ (wlI f l g i.toNat) l g i (j - (i + 1)).toNat)) (i + 1) l.length ?_ ?_ (i + 1) (v6, v7, v8, v9, v10) _ (by omega) (by omega) ⟨e2, by rw [show i + 1 - (i + 1) = 0 by omega]; exact P2⟩
    · rintro j ⟨v6, v7, v8, v9, v10⟩ h3 j0 j1 ⟨e3, P3⟩ ih2
      dsimp only
      have L3 := L.ef e3 (fun a k q q' => by unfold Sw7 at q'; omega)
      have a1 := L3.en i0 i1
      have a2 := L3.en (i := j) (by omega) j1
      have o1 := en_on ho i0 i1
      have o2 := en_on ho (i := j) (by omega) j1
      obtain ⟨o11, o12⟩ := id o1
      obtain ⟨o21, o22⟩ := id o2
      have ws := wlJ_s (f := wlI f l g i.toNat) (l := l) (g := g) j0
      have m1 := mulb (a := (en l j).1 - (en l i).1) (b := (en l j).1 - (en l i).1) (A := 47) (B := 47) (by omega) (by omega)
      have m2 := mulb (a := (en l j).2 - (en l i).2) (b := (en l j).2 - (en l i).2) (A := 47) (B := 47) (by omega) (by omega)
      have m3 := mulb (a := g) (b := g) (A := 8) (B := 8) (by omega) (by omega)
      have sq1 : 0 ≤ ((en l j).1 - (en l i).1) * ((en l j).1 - (en l i).1) := sqn _
      have sq2 : 0 ≤ ((en l j).2 - (en l i).2) * ((en l j).2 - (en l i).2) := sqn _
      by_cases c : 0 < esq l i j ∧ esq l i j ≤ g * g
      · have c1 := c.1
        have c2 := c.2
        unfold esq at c1 c2
        rw [k255_10]
        simp +decide (maxSteps := 4000000) (disch := omega) only [k255_0, k255_2, k255_3, k255_4, k255_6, k255_7, k255_8, k255_11, k255_13, k255_14, k255_15, k255_r, k255_s, T_I, F_is3i, F_is3r, F_is3m, T_ft, F_il3, T_icge, F_al0, T_getR, X_iald, J_ifle, T_goto, T_bast, F_inc3i, F_inc3r, F_inc3m, F_is4i, F_is4r, F_is4m, F_il4, F_il1, T_mul, F_is5i, F_is5r, F_is5m, T_add, T_sub, F_is6i, F_is6r, F_is6m, F_il5, F_il6, J_icne, T_iast, F_inc4i, F_inc4r, F_inc4m, F_is7i, F_is7r, F_is7m, F_il7, F_is8i, F_is8r, F_is8m, F_il8, J_ifeq, F_il2, T_icle, F_is9i, F_is9r, F_is9m, F_is10i, F_is10r, F_is10m, F_il10, F_il9, T_icgt, T_getI, F_inc10i, F_inc10r, F_inc10m, F_inc5i, F_inc5r, F_inc5m, T_ret, c239, c242, ↓s239, ↓s242, FM F, a1, a2, ln_731, ln_732, show ¬ (l.length : Int) ≤ j by omega, show ¬ ((en l j).1 - (en l i).1) * ((en l j).1 - (en l i).1) + ((en l j).2 - (en l i).2) * ((en l j).2 - (en l i).2) = 0 by omega, c2, TK, lt_run hn, le43, Int.le_refl, Int.lt_irrefl, Option.some.injEq, exists_eq_left', true_and, and_true, if_true, if_false, decide_eq_false_iff_not, decide_eq_true_eq, Nat.reduceAdd, Nat.reduceLeDiff, Nat.reduceLT, Int.reduceAdd, Int.reduceSub, Int.reduceMul, Int.reduceNeg, not_true_eq_false, not_false_eq_true]
        refine z255l F hn (by omega) (by omega) o1 o2 a1 a2 P3 (fun h4 v10 P4 e4 => ?_)
        simp +decide (maxSteps := 4000000) (disch := omega) only [k255_0, k255_2, k255_3, k255_4, k255_6, k255_7, k255_8, k255_11, k255_13, k255_14, k255_15, k255_r, k255_s, T_I, F_is3i, F_is3r, F_is3m, T_ft, F_il3, T_icge, F_al0, T_getR, X_iald, J_ifle, T_goto, T_bast, F_inc3i, F_inc3r, F_inc3m, F_is4i, F_is4r, F_is4m, F_il4, F_il1, T_mul, F_is5i, F_is5r, F_is5m, T_add, T_sub, F_is6i, F_is6r, F_is6m, F_il5, F_il6, J_icne, T_iast, F_inc4i, F_inc4r, F_inc4m, F_is7i, F_is7r, F_is7m, F_il7, F_is8i, F_is8r, F_is8m, F_il8, J_ifeq, F_il2, T_icle, F_is9i, F_is9r, F_is9m, F_is10i, F_is10r, F_is10m, F_il10, F_il9, T_icgt, T_getI, F_inc10i, F_inc10r, F_inc10m, F_inc5i, F_inc5r, F_inc5m, T_ret, c239, c242, ↓s239, ↓s242, TK, lt_run hn, le43, Int.le_refl, Int.lt_irrefl, Option.some.injEq, exists_eq_left', true_and, and_true, if_true, if_false, decide_eq_false_iff_not, decide_eq_true_eq, Nat.reduceAdd, Nat.reduceLeDiff, Nat.reduceLT, Int.reduceAdd, Int.reduceSub, Int.reduceMul, Int.reduceNeg, not_true_eq_false, not_false_eq_true]
        refine ih2 (_, _, _, _, _) _ ⟨e3.trans e4, ?_⟩
        rw [ws]
        unfold wl1
        rw [if_pos c]
        exact P4
      · have en2 : PB h3 728 (wlJ (wlI f l g i.toNat) l g i (j + 1 - (i + 1)).toNat) := by
          rw [ws]
          unfold wl1
          rw [if_neg c]
          exact P3
        unfold esq at c
        by_cases c1 : ((en l j).1 - (en l i).1) * ((en l j).1 - (en l i).1) + ((en l j).2 - (en l i).2) * ((en l j).2 - (en l i).2) = 0
        · rw [k255_10]
          simp +decide (maxSteps := 4000000) (disch := omega) only [k255_0, k255_2, k255_3, k255_4, k255_6, k255_7, k255_8, k255_11, k255_13, k255_14, k255_15, k255_r, k255_s, T_I, F_is3i, F_is3r, F_is3m, T_ft, F_il3, T_icge, F_al0, T_getR, X_iald, J_ifle, T_goto, T_bast, F_inc3i, F_inc3r, F_inc3m, F_is4i, F_is4r, F_is4m, F_il4, F_il1, T_mul, F_is5i, F_is5r, F_is5m, T_add, T_sub, F_is6i, F_is6r, F_is6m, F_il5, F_il6, J_icne, T_iast, F_inc4i, F_inc4r, F_inc4m, F_is7i, F_is7r, F_is7m, F_il7, F_is8i, F_is8r, F_is8m, F_il8, J_ifeq, F_il2, T_icle, F_is9i, F_is9r, F_is9m, F_is10i, F_is10r, F_is10m, F_il10, F_il9, T_icgt, T_getI, F_inc10i, F_inc10r, F_inc10m, F_inc5i, F_inc5r, F_inc5m, T_ret, c239, c242, ↓s239, ↓s242, FM F, a1, a2, ln_731, ln_732, show ¬ (l.length : Int) ≤ j by omega, c1, TK, lt_run hn, le43, Int.le_refl, Int.lt_irrefl, Option.some.injEq, exists_eq_left', true_and, and_true, if_true, if_false, decide_eq_false_iff_not, decide_eq_true_eq, Nat.reduceAdd, Nat.reduceLeDiff, Nat.reduceLT, Int.reduceAdd, Int.reduceSub, Int.reduceMul, Int.reduceNeg, not_true_eq_false, not_false_eq_true]
          exact ih2 (_, _, _, _, _) _ ⟨e3, en2⟩
        · rw [k255_10]
          simp +decide (maxSteps := 4000000) (disch := omega) only [k255_0, k255_2, k255_3, k255_4, k255_6, k255_7, k255_8, k255_11, k255_13, k255_14, k255_15, k255_r, k255_s, T_I, F_is3i, F_is3r, F_is3m, T_ft, F_il3, T_icge, F_al0, T_getR, X_iald, J_ifle, T_goto, T_bast, F_inc3i, F_inc3r, F_inc3m, F_is4i, F_is4r, F_is4m, F_il4, F_il1, T_mul, F_is5i, F_is5r, F_is5m, T_add, T_sub, F_is6i, F_is6r, F_is6m, F_il5, F_il6, J_icne, T_iast, F_inc4i, F_inc4r, F_inc4m, F_is7i, F_is7r, F_is7m, F_il7, F_is8i, F_is8r, F_is8m, F_il8, J_ifeq, F_il2, T_icle, F_is9i, F_is9r, F_is9m, F_is10i, F_is10r, F_is10m, F_il10, F_il9, T_icgt, T_getI, F_inc10i, F_inc10r, F_inc10m, F_inc5i, F_inc5r, F_inc5m, T_ret, c239, c242, ↓s239, ↓s242, FM F, a1, a2, ln_731, ln_732, show ¬ (l.length : Int) ≤ j by omega, c1, show ¬ ((en l j).1 - (en l i).1) * ((en l j).1 - (en l i).1) + ((en l j).2 - (en l i).2) * ((en l j).2 - (en l i).2) ≤ g * g by omega, TK, lt_run hn, le43, Int.le_refl, Int.lt_irrefl, Option.some.injEq, exists_eq_left', true_and, and_true, if_true, if_false, decide_eq_false_iff_not, decide_eq_true_eq, Nat.reduceAdd, Nat.reduceLeDiff, Nat.reduceLT, Int.reduceAdd, Int.reduceSub, Int.reduceMul, Int.reduceNeg, not_true_eq_false, not_false_eq_true]
          exact ih2 (_, _, _, _, _) _ ⟨e3, en2⟩
    · rintro ⟨v6, v7, v8, v9, v10⟩ h3 ⟨e3, P3⟩
      dsimp only
      rw [k255_10]
      simp +decide (maxSteps := 4000000) (disch := omega) only [k255_0, k255_2, k255_3, k255_4, k255_6, k255_7, k255_8, k255_11, k255_13, k255_14, k255_15, k255_r, k255_s, T_I, F_is3i, F_is3r, F_is3m, T_ft, F_il3, T_icge, F_al0, T_getR, X_iald, J_ifle, T_goto, T_bast, F_inc3i, F_inc3r, F_inc3m, F_is4i, F_is4r, F_is4m, F_il4, F_il1, T_mul, F_is5i, F_is5r, F_is5m, T_add, T_sub, F_is6i, F_is6r, F_is6m, F_il5, F_il6, J_icne, T_iast, F_inc4i, F_inc4r, F_inc4m, F_is7i, F_is7r, F_is7m, F_il7, F_is8i, F_is8r, F_is8m, F_il8, J_ifeq, F_il2, T_icle, F_is9i, F_is9r, F_is9m, F_is10i, F_is10r, F_is10m, F_il10, F_il9, T_icgt, T_getI, F_inc10i, F_inc10r, F_inc10m, F_inc5i, F_inc5r, F_inc5m, T_ret, c239, c242, ↓s239, ↓s242, TK, lt_run hn, le43, Int.le_refl, Int.lt_irrefl, Option.some.injEq, exists_eq_left', true_and, and_true, if_true, if_false, decide_eq_false_iff_not, decide_eq_true_eq, Nat.reduceAdd, Nat.reduceLeDiff, Nat.reduceLT, Int.reduceAdd, Int.reduceSub, Int.reduceMul, Int.reduceNeg, not_true_eq_false, not_false_eq_true]
      refine ih (_, _, _, _, _, _) _ ⟨e3, ?_⟩
      rw [wlI_s i0]
      exact P3
  · rintro ⟨v5, v6, v7, v8, v9, v10⟩ h2 ⟨e2, P2⟩
    dsimp only
    rw [k255_9]
    simp +decide (maxSteps := 4000000) (disch := omega) only [k255_0, k255_2, k255_3, k255_4, k255_6, k255_7, k255_8, k255_11, k255_13, k255_14, k255_15, k255_r, k255_s, T_I, F_is3i, F_is3r, F_is3m, T_ft, F_il3, T_icge, F_al0, T_getR, X_iald, J_ifle, T_goto, T_bast, F_inc3i, F_inc3r, F_inc3m, F_is4i, F_is4r, F_is4m, F_il4, F_il1, T_mul, F_is5i, F_is5r, F_is5m, T_add, T_sub, F_is6i, F_is6r, F_is6m, F_il5, F_il6, J_icne, T_iast, F_inc4i, F_inc4r, F_inc4m, F_is7i, F_is7r, F_is7m, F_il7, F_is8i, F_is8r, F_is8m, F_il8, J_ifeq, F_il2, T_icle, F_is9i, F_is9r, F_is9m, F_is10i, F_is10r, F_is10m, F_il10, F_il9, T_icgt, T_getI, F_inc10i, F_inc10r, F_inc10m, F_inc5i, F_inc5r, F_inc5m, T_ret, c239, c242, ↓s239, ↓s242, TK, lt_run hn, le43, Int.le_refl, Int.lt_irrefl, Option.some.injEq, exists_eq_left', true_and, and_true, if_true, if_false, decide_eq_false_iff_not, decide_eq_true_eq, Nat.reduceAdd, Nat.reduceLeDiff, Nat.reduceLT, Int.reduceAdd, Int.reduceSub, Int.reduceMul, Int.reduceNeg, not_true_eq_false, not_false_eq_true]
    exact k h2 P2 e2
theorem gE2 {l : List (Int × Int)} {a b e : Int × Int} {i : Nat} (h : (l ++ [a, b])[i]? = some e) : (i < l.length ∧ l[i]? = some e) ∨ (i = l.length ∧ e = a) ∨ (i = l.length + 1 ∧ e = b) := by
  by_cases q : i < l.length
  · rw [List.getElem?_append_left q] at h
    exact Or.inl ⟨q, h⟩
  · rw [List.getElem?_append_right (by omega)] at h
    rcases (show i = l.length ∨ i = l.length + 1 ∨ l.length + 2 ≤ i by omega) with q | q | q
    · rw [show i - l.length = 0 by omega] at h
      exact Or.inr (Or.inl ⟨q, (Option.some.inj h).symm⟩)
    · rw [show i - l.length = 1 by omega] at h
      exact Or.inr (Or.inr ⟨q, (Option.some.inj h).symm⟩)
    · rw [List.getElem?_eq_none (by show 2 ≤ i - l.length; omega)] at h
      cases h
def Swl (a k : Nat) : Prop := a = 728 ∨ a = 731 ∨ a = 732 ∨ (a = 704 ∧ (k = 16 ∨ k = 17))
theorem WX.ef {S : Nat → Nat → Prop} {m : Int} {D : Drw} (X : WX h m D) (e : Ef S h h') (hs : ∀ a k, a = 724 ∨ a = 725 → ¬ S a k) : WX h' m D := fun i i0 i1 j j0 j1 => by
  rw [e.g (hs _ _ (Or.inl rfl)), e.g (hs _ _ (Or.inr rfl))]
  exact X i i0 i1 j j0 j1
theorem w255 (F : FH hr) (hn : 775 ≤ n) {d : Int} {D D' : Drw} (hd : 0 ≤ d ∧ d < 16) (R : DRr D) (R' : DRr D') (hm : D'.1 = D.1) (hp : ∀ i, (D'.2 i).2.1 = (D.2 i).2.1) (M : DM h d D) (X : WX h D.1 D') (hg : 0 ≤ g ∧ g ≤ 8) (P : PA h 726 f) (hf : ∀ q, 0 ≤ f q ∧ f q ≤ 15)
    (k : ∀ h', PB h' 728 (wlI f (endD D' D.1.toNat) g (endD D' D.1.toNat).length) → Ef Swl h h' → Q (none, h', hr, n)) : Sp E 255 [.ref 704, .int (J d), .int (J g)] h hr n Q := by
  have r1 := R.1
  simp +decide (maxSteps := 4000000) (disch := omega) only [k255_0, k255_2, k255_3, k255_4, k255_6, k255_7, k255_8, k255_11, k255_13, k255_14, k255_15, k255_r, k255_s, T_I, F_is3i, F_is3r, F_is3m, T_ft, F_il3, T_icge, F_al0, T_getR, X_iald, J_ifle, T_goto, T_bast, F_inc3i, F_inc3r, F_inc3m, F_is4i, F_is4r, F_is4m, F_il4, F_il1, T_mul, F_is5i, F_is5r, F_is5m, T_add, T_sub, F_is6i, F_is6r, F_is6m, F_il5, F_il6, J_icne, T_iast, F_inc4i, F_inc4r, F_inc4m, F_is7i, F_is7r, F_is7m, F_il7, F_is8i, F_is8r, F_is8m, F_il8, J_ifeq, F_il2, T_icle, F_is9i, F_is9r, F_is9m, F_is10i, F_is10r, F_is10m, F_il10, F_il9, T_icgt, T_getI, F_inc10i, F_inc10r, F_inc10m, F_inc5i, F_inc5r, F_inc5m, T_ret, c239, c242, ↓s239, ↓s242, FM F, TK, lt_run hn, le43, Int.le_refl, Int.lt_irrefl, Option.some.injEq, exists_eq_left', true_and, and_true, if_true, if_false, decide_eq_false_iff_not, decide_eq_true_eq, Nat.reduceAdd, Nat.reduceLeDiff, Nat.reduceLT, Int.reduceAdd, Int.reduceSub, Int.reduceMul, Int.reduceNeg, not_true_eq_false, not_false_eq_true]
  refine T_for (σ := Unit) (fun q _ => [.ref 704, .int (J d), .int (J g), .int (J q), a_mk, a_mk, a_mk, a_mk, a_mk, a_mk, a_mk]) (fun q _ h' => Ef (fun a _ => a = 728) h h' ∧ ∀ p, 0 ≤ p → p < q → gA h' 728 p = Bz (decide (f p ≠ 0))) 0 1536 ?_ ?_ 0 () h (by omega) (by omega) ⟨Ef.refl, fun p _ _ => by omega⟩
  · rintro q _ h1 q0 q1 ⟨e1, c1⟩ ih
    have a1 : gA h1 726 q = J (f q) := by
      rw [e1.g (by decide)]
      exact P q q0 q1
    have a2 := hf q
    have st : ∀ v, v = Bz (decide (f q ≠ 0)) → ∀ p, 0 ≤ p → p < q + 1 → gA (sA h1 728 q v) 728 p = Bz (decide (f p ≠ 0)) := fun v hv p p0 p1 => by
      by_cases e : p = q
      · rw [e, gs_s, hv]
      · rw [gs_k q0 p0 e]
        exact c1 p p0 (by omega)
    by_cases c : f q ≤ 0
    · rw [k255_1]
      simp +decide (maxSteps := 4000000) (disch := omega) only [k255_0, k255_2, k255_3, k255_4, k255_6, k255_7, k255_8, k255_11, k255_13, k255_14, k255_15, k255_r, k255_s, T_I, F_is3i, F_is3r, F_is3m, T_ft, F_il3, T_icge, F_al0, T_getR, X_iald, J_ifle, T_goto, T_bast, F_inc3i, F_inc3r, F_inc3m, F_is4i, F_is4r, F_is4m, F_il4, F_il1, T_mul, F_is5i, F_is5r, F_is5m, T_add, T_sub, F_is6i, F_is6r, F_is6m, F_il5, F_il6, J_icne, T_iast, F_inc4i, F_inc4r, F_inc4m, F_is7i, F_is7r, F_is7m, F_il7, F_is8i, F_is8r, F_is8m, F_il8, J_ifeq, F_il2, T_icle, F_is9i, F_is9r, F_is9m, F_is10i, F_is10r, F_is10m, F_il10, F_il9, T_icgt, T_getI, F_inc10i, F_inc10r, F_inc10m, F_inc5i, F_inc5r, F_inc5m, T_ret, c239, c242, ↓s239, ↓s242, FM F, ln_726, ln_728, a1, c, true_or, or_true, bool_0, show ¬ 1536 ≤ q by omega, TK, lt_run hn, le43, Int.le_refl, Int.lt_irrefl, Option.some.injEq, exists_eq_left', true_and, and_true, if_true, if_false, decide_eq_false_iff_not, decide_eq_true_eq, Nat.reduceAdd, Nat.reduceLeDiff, Nat.reduceLT, Int.reduceAdd, Int.reduceSub, Int.reduceMul, Int.reduceNeg, not_true_eq_false, not_false_eq_true]
      exact ih () _ ⟨e1.sA rfl, st _ (by rw [decide_eq_false (by omega)]; rfl)⟩
    · rw [k255_1]
      simp +decide (maxSteps := 4000000) (disch := omega) only [k255_0, k255_2, k255_3, k255_4, k255_6, k255_7, k255_8, k255_11, k255_13, k255_14, k255_15, k255_r, k255_s, T_I, F_is3i, F_is3r, F_is3m, T_ft, F_il3, T_icge, F_al0, T_getR, X_iald, J_ifle, T_goto, T_bast, F_inc3i, F_inc3r, F_inc3m, F_is4i, F_is4r, F_is4m, F_il4, F_il1, T_mul, F_is5i, F_is5r, F_is5m, T_add, T_sub, F_is6i, F_is6r, F_is6m, F_il5, F_il6, J_icne, T_iast, F_inc4i, F_inc4r, F_inc4m, F_is7i, F_is7r, F_is7m, F_il7, F_is8i, F_is8r, F_is8m, F_il8, J_ifeq, F_il2, T_icle, F_is9i, F_is9r, F_is9m, F_is10i, F_is10r, F_is10m, F_il10, F_il9, T_icgt, T_getI, F_inc10i, F_inc10r, F_inc10m, F_inc5i, F_inc5r, F_inc5m, T_ret, c239, c242, ↓s239, ↓s242, FM F, ln_726, ln_728, a1, c, true_or, or_true, bool_1, show ¬ 1536 ≤ q by omega, TK, lt_run hn, le43, Int.le_refl, Int.lt_irrefl, Option.some.injEq, exists_eq_left', true_and, and_true, if_true, if_false, decide_eq_false_iff_not, decide_eq_true_eq, Nat.reduceAdd, Nat.reduceLeDiff, Nat.reduceLT, Int.reduceAdd, Int.reduceSub, Int.reduceMul, Int.reduceNeg, not_true_eq_false, not_false_eq_true]
      exact ih () _ ⟨e1.sA rfl, st _ (by rw [decide_eq_true (by omega)]; rfl)⟩
  rintro _ h1 ⟨e1, c1⟩
  rw [k255_1]
  simp +decide (maxSteps := 4000000) (disch := omega) only [k255_0, k255_2, k255_3, k255_4, k255_6, k255_7, k255_8, k255_11, k255_13, k255_14, k255_15, k255_r, k255_s, T_I, F_is3i, F_is3r, F_is3m, T_ft, F_il3, T_icge, F_al0, T_getR, X_iald, J_ifle, T_goto, T_bast, F_inc3i, F_inc3r, F_inc3m, F_is4i, F_is4r, F_is4m, F_il4, F_il1, T_mul, F_is5i, F_is5r, F_is5m, T_add, T_sub, F_is6i, F_is6r, F_is6m, F_il5, F_il6, J_icne, T_iast, F_inc4i, F_inc4r, F_inc4m, F_is7i, F_is7r, F_is7m, F_il7, F_is8i, F_is8r, F_is8m, F_il8, J_ifeq, F_il2, T_icle, F_is9i, F_is9r, F_is9m, F_is10i, F_is10r, F_is10m, F_il10, F_il9, T_icgt, T_getI, F_inc10i, F_inc10r, F_inc10m, F_inc5i, F_inc5r, F_inc5m, T_ret, c239, c242, ↓s239, ↓s242, FM F, TK, lt_run hn, le43, Int.le_refl, Int.lt_irrefl, Option.some.injEq, exists_eq_left', true_and, and_true, if_true, if_false, decide_eq_false_iff_not, decide_eq_true_eq, Nat.reduceAdd, Nat.reduceLeDiff, Nat.reduceLT, Int.reduceAdd, Int.reduceSub, Int.reduceMul, Int.reduceNeg, not_true_eq_false, not_false_eq_true]
  have P1 : PB h1 728 f := fun q q0 q1 => c1 q q0 q1
  refine T_for (σ := Value × Value × Value × Value × Value × Value) (fun i v => [.ref 704, .int (J d), .int (J g), .int (J (endD D' i.toNat).length), .int (J i), v.1, v.2.1, v.2.2.1, v.2.2.2.1, v.2.2.2.2.1, v.2.2.2.2.2]) (fun i v h' => Ef Swl h h' ∧ PB h' 728 f ∧ EM h' (endD D' i.toNat)) 0 D.1 ?_ ?_ 0 (a_mk, a_mk, a_mk, a_mk, a_mk, a_mk) h1 (by omega) (by omega) ⟨e1.mono fun a k q => Or.inl q, P1, fun i e he => by cases he⟩
  · rintro i ⟨v5, v6, v7, v8, v9, v10⟩ h2 i0 i1 ⟨e2, P2, L2⟩ ih
    dsimp only
    have M2 := M.ef R hd.1 e2 (fun a k _ _ q => by unfold Swl at q; omega)
    have X2 := X.ef e2 (fun a k q q' => by unfold Swl at q'; omega)
    have m1 := M2.1
    have m2 := (M2.2 i i0 i1).1.2
    have r2 := (R.2 i).2.1
    have x1 := X2 i i0 i1 0 (by omega) (by rw [hp]; omega)
    rw [show 10 * i + 0 = 10 * i by omega] at x1
    have x2 := X2 i i0 i1 ((D.2 i).2.1 - 1) (by omega) (by rw [hp]; omega)
    rw [show 10 * i + ((D.2 i).2.1 - 1) = 10 * i + (D.2 i).2.1 - 1 by omega] at x2
    have b1 := (R'.2 i).2.2 0
    have b2 := (R'.2 i).2.2 ((D.2 i).2.1 - 1)
    have is := (inkD_s (D := D') i0).2
    have el := (endD_l R' i.toNat).1
    have es : endS (D'.2 i) = if (D'.2 i).2.2.1 0 = (D'.2 i).2.2.1 ((D.2 i).2.1 - 1) ∧ (D'.2 i).2.2.2 0 = (D'.2 i).2.2.2 ((D.2 i).2.1 - 1) then [] else [((D'.2 i).2.2.1 0, (D'.2 i).2.2.2 0), ((D'.2 i).2.2.1 ((D.2 i).2.1 - 1), (D'.2 i).2.2.2 ((D.2 i).2.1 - 1))] := by
      unfold endS
      rw [hp]
    generalize (D'.2 i).2.2.1 0 = ax at *
    generalize (D'.2 i).2.2.2 0 = ay at *
    generalize (D'.2 i).2.2.1 ((D.2 i).2.1 - 1) = bx at *
    generalize (D'.2 i).2.2.2 ((D.2 i).2.1 - 1) = bY at *
    have go : ¬ (ax = bx ∧ ay = bY) → Tm E 255 (a_bl 255 6) [.ref 704, .int (J d), .int (J g), .int (J (endD D' i.toNat).length), .int (J i), .int (J (10 * i)), .int (J (10 * i + (D.2 i).2.1 - 1)), v7, v8, v9, v10] [] h2 hr n Q := fun c => by
      rw [if_neg c] at es
      have ll : ((endD D' (i + 1).toNat).length : Int) = (endD D' i.toNat).length + 2 := by
        rw [is, es, List.length_append]
        rfl
      rw [k255_6]
      simp +decide (maxSteps := 4000000) (disch := omega) only [k255_0, k255_2, k255_3, k255_4, k255_6, k255_7, k255_8, k255_11, k255_13, k255_14, k255_15, k255_r, k255_s, T_I, F_is3i, F_is3r, F_is3m, T_ft, F_il3, T_icge, F_al0, T_getR, X_iald, J_ifle, T_goto, T_bast, F_inc3i, F_inc3r, F_inc3m, F_is4i, F_is4r, F_is4m, F_il4, F_il1, T_mul, F_is5i, F_is5r, F_is5m, T_add, T_sub, F_is6i, F_is6r, F_is6m, F_il5, F_il6, J_icne, T_iast, F_inc4i, F_inc4r, F_inc4m, F_is7i, F_is7r, F_is7m, F_il7, F_is8i, F_is8r, F_is8m, F_il8, J_ifeq, F_il2, T_icle, F_is9i, F_is9r, F_is9m, F_is10i, F_is10r, F_is10m, F_il10, F_il9, T_icgt, T_getI, F_inc10i, F_inc10r, F_inc10m, F_inc5i, F_inc5r, F_inc5m, T_ret, c239, c242, ↓s239, ↓s242, FM F, ln_724, ln_725, ln_731, ln_732, x1, x2, gs_o, TK, lt_run hn, le43, Int.le_refl, Int.lt_irrefl, Option.some.injEq, exists_eq_left', true_and, and_true, if_true, if_false, decide_eq_false_iff_not, decide_eq_true_eq, Nat.reduceAdd, Nat.reduceLeDiff, Nat.reduceLT, Int.reduceAdd, Int.reduceSub, Int.reduceMul, Int.reduceNeg, not_true_eq_false, not_false_eq_true]
      rw [← ll]
      refine ih (_, _, _, _, _, _) _ ⟨(((e2.sA (Or.inr (Or.inl rfl))).sA (Or.inr (Or.inr (Or.inl rfl)))).sA (Or.inr (Or.inl rfl))).sA (Or.inr (Or.inr (Or.inl rfl))), P2.ef (S := fun a k => a = 731 ∨ a = 732) ((((Ef.refl.sA (Or.inl rfl)).sA (Or.inr rfl)).sA (Or.inl rfl)).sA (Or.inr rfl)) (fun k => by decide), fun q e hq => ?_⟩
      rw [is, es] at hq
      rw [gs_o (by decide)]
      rcases gE2 hq with ⟨q1, q2⟩ | ⟨q1, q2⟩ | ⟨q1, q2⟩
      · have := L2 q e q2
        refine ⟨?_, ?_⟩
        · rw [gs_k (by omega) (by omega) (by omega), gs_o (by decide), gs_k (by omega) (by omega) (by omega)]
          exact this.1
        · rw [gs_k (by omega) (by omega) (by omega), gs_o (by decide), gs_k (by omega) (by omega) (by omega), gs_o (by decide)]
          exact this.2
      · rw [q1, q2]
        refine ⟨?_, ?_⟩
        · rw [gs_k (by omega) (by omega) (by omega), gs_o (by decide), gs_s]
        · rw [gs_k (by omega) (by omega) (by omega), gs_o (by decide), gs_s]
      · rw [q1, q2, show (((endD D' i.toNat).length + 1 : Nat) : Int) = (endD D' i.toNat).length + 1 by omega]
        exact ⟨gs_s, gs_s⟩
    by_cases c : ax = bx
    · by_cases c2 : ay = bY
      · rw [if_pos ⟨c, c2⟩] at es
        have ll : endD D' (i + 1).toNat = endD D' i.toNat := by rw [is, es, List.append_nil]
        rw [k255_5]
        simp +decide (maxSteps := 4000000) (disch := omega) only [k255_0, k255_2, k255_3, k255_4, k255_6, k255_7, k255_8, k255_11, k255_13, k255_14, k255_15, k255_r, k255_s, T_I, F_is3i, F_is3r, F_is3m, T_ft, F_il3, T_icge, F_al0, T_getR, X_iald, J_ifle, T_goto, T_bast, F_inc3i, F_inc3r, F_inc3m, F_is4i, F_is4r, F_is4m, F_il4, F_il1, T_mul, F_is5i, F_is5r, F_is5m, T_add, T_sub, F_is6i, F_is6r, F_is6m, F_il5, F_il6, J_icne, T_iast, F_inc4i, F_inc4r, F_inc4m, F_is7i, F_is7r, F_is7m, F_il7, F_is8i, F_is8r, F_is8m, F_il8, J_ifeq, F_il2, T_icle, F_is9i, F_is9r, F_is9m, F_is10i, F_is10r, F_is10m, F_il10, F_il9, T_icgt, T_getI, F_inc10i, F_inc10r, F_inc10m, F_inc5i, F_inc5r, F_inc5m, T_ret, c239, c242, ↓s239, ↓s242, FM F, ln_708, ln_710, ln_724, ln_725, m1, m2, x1, x2, c, c2, show ¬ D.1 ≤ i by omega, TK, lt_run hn, le43, Int.le_refl, Int.lt_irrefl, Option.some.injEq, exists_eq_left', true_and, and_true, if_true, if_false, decide_eq_false_iff_not, decide_eq_true_eq, Nat.reduceAdd, Nat.reduceLeDiff, Nat.reduceLT, Int.reduceAdd, Int.reduceSub, Int.reduceMul, Int.reduceNeg, not_true_eq_false, not_false_eq_true]
        rw [← ll] at L2 ⊢
        exact ih (_, _, _, _, _, _) h2 ⟨e2, P2, L2⟩
      · rw [k255_5]
        simp +decide (maxSteps := 4000000) (disch := omega) only [k255_0, k255_2, k255_3, k255_4, k255_7, k255_8, k255_11, k255_13, k255_14, k255_15, k255_r, k255_s, T_I, F_is3i, F_is3r, F_is3m, T_ft, F_il3, T_icge, F_al0, T_getR, X_iald, J_ifle, T_goto, T_bast, F_inc3i, F_inc3r, F_inc3m, F_is4i, F_is4r, F_is4m, F_il4, F_il1, T_mul, F_is5i, F_is5r, F_is5m, T_add, T_sub, F_is6i, F_is6r, F_is6m, F_il5, F_il6, J_icne, T_iast, F_inc4i, F_inc4r, F_inc4m, F_is7i, F_is7r, F_is7m, F_il7, F_is8i, F_is8r, F_is8m, F_il8, J_ifeq, F_il2, T_icle, F_is9i, F_is9r, F_is9m, F_is10i, F_is10r, F_is10m, F_il10, F_il9, T_icgt, T_getI, F_inc10i, F_inc10r, F_inc10m, F_inc5i, F_inc5r, F_inc5m, T_ret, c239, c242, ↓s239, ↓s242, FM F, ln_708, ln_710, ln_724, ln_725, m1, m2, x1, x2, c, c2, show ¬ D.1 ≤ i by omega, TK, lt_run hn, le43, Int.le_refl, Int.lt_irrefl, Option.some.injEq, exists_eq_left', true_and, and_true, if_true, if_false, decide_eq_false_iff_not, decide_eq_true_eq, Nat.reduceAdd, Nat.reduceLeDiff, Nat.reduceLT, Int.reduceAdd, Int.reduceSub, Int.reduceMul, Int.reduceNeg, not_true_eq_false, not_false_eq_true]
        exact go (fun q => c2 q.2)
    · rw [k255_5]
      simp +decide (maxSteps := 4000000) (disch := omega) only [k255_0, k255_2, k255_3, k255_4, k255_7, k255_8, k255_11, k255_13, k255_14, k255_15, k255_r, k255_s, T_I, F_is3i, F_is3r, F_is3m, T_ft, F_il3, T_icge, F_al0, T_getR, X_iald, J_ifle, T_goto, T_bast, F_inc3i, F_inc3r, F_inc3m, F_is4i, F_is4r, F_is4m, F_il4, F_il1, T_mul, F_is5i, F_is5r, F_is5m, T_add, T_sub, F_is6i, F_is6r, F_is6m, F_il5, F_il6, J_icne, T_iast, F_inc4i, F_inc4r, F_inc4m, F_is7i, F_is7r, F_is7m, F_il7, F_is8i, F_is8r, F_is8m, F_il8, J_ifeq, F_il2, T_icle, F_is9i, F_is9r, F_is9m, F_is10i, F_is10r, F_is10m, F_il10, F_il9, T_icgt, T_getI, F_inc10i, F_inc10r, F_inc10m, F_inc5i, F_inc5r, F_inc5m, T_ret, c239, c242, ↓s239, ↓s242, FM F, ln_708, ln_710, ln_724, ln_725, m1, m2, x1, x2, c, show ¬ D.1 ≤ i by omega, TK, lt_run hn, le43, Int.le_refl, Int.lt_irrefl, Option.some.injEq, exists_eq_left', true_and, and_true, if_true, if_false, decide_eq_false_iff_not, decide_eq_true_eq, Nat.reduceAdd, Nat.reduceLeDiff, Nat.reduceLT, Int.reduceAdd, Int.reduceSub, Int.reduceMul, Int.reduceNeg, not_true_eq_false, not_false_eq_true]
      exact go (fun q => c q.1)
  · rintro ⟨v5, v6, v7, v8, v9, v10⟩ h2 ⟨e2, P2, L2⟩
    dsimp only
    have m1 := (M.ef R hd.1 e2 (fun a k _ _ q => by unfold Swl at q; omega)).1
    have el := endD_l R' D.1.toNat
    rw [k255_5]
    simp +decide (maxSteps := 4000000) (disch := omega) only [k255_0, k255_2, k255_3, k255_4, k255_6, k255_7, k255_8, k255_11, k255_13, k255_14, k255_15, k255_r, k255_s, T_I, F_is3i, F_is3r, F_is3m, T_ft, F_il3, T_icge, F_al0, T_getR, X_iald, J_ifle, T_goto, T_bast, F_inc3i, F_inc3r, F_inc3m, F_is4i, F_is4r, F_is4m, F_il4, F_il1, T_mul, F_is5i, F_is5r, F_is5m, T_add, T_sub, F_is6i, F_is6r, F_is6m, F_il5, F_il6, J_icne, T_iast, F_inc4i, F_inc4r, F_inc4m, F_is7i, F_is7r, F_is7m, F_il7, F_is8i, F_is8r, F_is8m, F_il8, J_ifeq, F_il2, T_icle, F_is9i, F_is9r, F_is9m, F_is10i, F_is10r, F_is10m, F_il10, F_il9, T_icgt, T_getI, F_inc10i, F_inc10r, F_inc10m, F_inc5i, F_inc5r, F_inc5m, T_ret, c239, c242, ↓s239, ↓s242, FM F, ln_708, m1, TK, lt_run hn, le43, Int.le_refl, Int.lt_irrefl, Option.some.injEq, exists_eq_left', true_and, and_true, if_true, if_false, decide_eq_false_iff_not, decide_eq_true_eq, Nat.reduceAdd, Nat.reduceLeDiff, Nat.reduceLT, Int.reduceAdd, Int.reduceSub, Int.reduceMul, Int.reduceNeg, not_true_eq_false, not_false_eq_true]
    refine z255w F hn hg L2 (by omega) el.2 P2 _ _ _ _ _ _ (fun h3 P3 e3 => ?_)
    exact k h3 P3 (e2.trans (e3.mono fun a k q => by unfold Sw7 at q; unfold Swl; omega))
end WM
