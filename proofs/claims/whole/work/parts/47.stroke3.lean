/-! stroke: the call; parts of strokes -/
section RU
variable {E : AEn} {h h' : AHi} {hr : AHr} {n : Nat} {Q : ARs → Prop} {t p f i w : Int} {b X Y : Int → Int} {S : Nat → Nat → Prop}
/-- points u .. v of a stroke -/
def prt (s : Stk) (u v : Int) : Stk := (s.1, v - u + 1, fun j => s.2.2.1 (u + j), fun j => s.2.2.2 (u + j))
theorem w115 (F : FH hr) (hn : 775 ≤ n) {a o : Nat} (A : SB a) (O : SB o) (ap : a + 3 ≤ o ∨ o + 3 ≤ a) {s : Stk} (C : SC h o s) (hp : s.2.1 ≤ 10) {u v : Int} (hu : 0 ≤ u) (huv : u ≤ v + 1) (hv : v < s.2.1)
    (k : ∀ h', SC h' a (prt s u v) → Ef (Sa a) h h' → Q (none, h', hr, n)) : Sp E 115 [.ref a, .ref o, .int (J u), .int (J v)] h hr n Q := by
  have x1 := A.x E F
  have x2 := A.r
  have y1 := O.x E F
  have y2 := O.r
  have c1 := C.1.1
  simp +decide (maxSteps := 4000000) (disch := omega) only [k115_0, k115_2, k115_r, k115_s, F_al0, F_al1, T_getI, T_putI, T_putZ, T_I, F_il2, F_is4i, F_is4r, F_is4m, T_ft, F_il4, F_il3, T_icgt, T_getR, X_iald, F_inc4i, F_inc4r, F_inc4m, T_goto, T_ret, c114, x1, y1, c1, TK, lt_run hn, le43, Int.le_refl, Int.lt_irrefl, Option.some.injEq, exists_eq_left', true_and, and_true, if_true, if_false, decide_eq_false_iff_not, decide_eq_true_eq, Nat.reduceAdd, Nat.reduceLeDiff, Nat.reduceLT, Int.reduceAdd, Int.reduceSub, Int.reduceMul, Int.reduceNeg, not_true_eq_false, not_false_eq_true]
  refine T_for (σ := Unit) (fun i _ => [.ref a, .ref o, .int (J u), .int (J v), .int (J i)]) (fun i _ h' => Ef (Sa a) h h' ∧ (h' a 0 = J s.1 ∧ h' a 1 = J (i - u)) ∧ ∀ j, 0 ≤ j → j < i - u → gA h' (a + 1) j = J (s.2.2.1 (u + j)) ∧ gA h' (a + 2) j = J (s.2.2.2 (u + j))) u (v + 1) ?_ ?_ u () _ (by omega) (by omega) ⟨?_, ⟨?_, ?_⟩, fun j _ _ => by omega⟩
  · rintro i _ h1 i0 i1 ⟨e, ⟨e0, e1⟩, e2⟩ ih
    have d := (C.ef e (fun x k q1 q2 q => by unfold Sa at q; omega)).2 i (by omega) (by omega)
    rw [k115_1]
    simp +decide (maxSteps := 4000000) (disch := omega) only [k115_0, k115_2, k115_r, k115_s, F_al0, F_al1, T_getI, T_putI, T_putZ, T_I, F_il2, F_is4i, F_is4r, F_is4m, T_ft, F_il4, F_il3, T_icgt, T_getR, X_iald, F_inc4i, F_inc4r, F_inc4m, T_goto, T_ret, c114, y1, x1, d, show ¬ v < i by omega, TK, lt_run hn, le43, Int.le_refl, Int.lt_irrefl, Option.some.injEq, exists_eq_left', true_and, and_true, if_true, if_false, decide_eq_false_iff_not, decide_eq_true_eq, Nat.reduceAdd, Nat.reduceLeDiff, Nat.reduceLT, Int.reduceAdd, Int.reduceSub, Int.reduceMul, Int.reduceNeg, not_true_eq_false, not_false_eq_true]
    have q3 : sA h1 (a + 1) (i - u) (J (s.2.2.1 i)) a 1 = J (i - u) := by rw [sA_o (by omega)]; exact e1
    have q4 : sA (sA h1 (a + 1) (i - u) (J (s.2.2.1 i))) (a + 2) (i - u) (J (s.2.2.2 i)) a 1 = J (i - u) := by rw [sA_o (by omega)]; exact q3
    simp +decide (maxSteps := 4000000) (disch := omega) only [k114_0, k114_1, k114_r, k114_s, F_al0, T_getI, T_I, T_icge, T_getR, F_il1, T_iast, F_il2, T_dupI, T_dupR, T_add, T_putI, T_putZ, T_ft, T_ret, x1, e1, q3, q4, show ¬ 10 ≤ i - u by omega, TK, lt_run hn, le43, Int.le_refl, Int.lt_irrefl, Option.some.injEq, exists_eq_left', true_and, and_true, if_true, if_false, decide_eq_false_iff_not, decide_eq_true_eq, Nat.reduceAdd, Nat.reduceLeDiff, Nat.reduceLT, Int.reduceAdd, Int.reduceSub, Int.reduceMul, Int.reduceNeg, not_true_eq_false, not_false_eq_true]
    try simp +decide (maxSteps := 4000000) (disch := omega) only [k115_0, k115_2, k115_r, k115_s, F_al0, F_al1, T_getI, T_putI, T_putZ, T_I, F_il2, F_is4i, F_is4r, F_is4m, T_ft, F_il4, F_il3, T_icgt, T_getR, X_iald, F_inc4i, F_inc4r, F_inc4m, T_goto, T_ret, c114, TK, lt_run hn, le43, Int.le_refl, Int.lt_irrefl, Option.some.injEq, exists_eq_left', true_and, and_true, if_true, if_false, decide_eq_false_iff_not, decide_eq_true_eq, Nat.reduceAdd, Nat.reduceLeDiff, Nat.reduceLT, Int.reduceAdd, Int.reduceSub, Int.reduceMul, Int.reduceNeg, not_true_eq_false, not_false_eq_true]
    refine ih () _ ⟨Ef.hI (Ef.sA (Ef.sA e ⟨by omega, by omega⟩) ⟨by omega, by omega⟩) ⟨by omega, by omega⟩, ⟨?_, ?_⟩, fun j j0 j1 => ?_⟩
    · rw [hI_k (by decide), sA_o (by omega), sA_o (by omega)]
      exact e0
    · rw [hI_s, show i + 1 - u = i - u + 1 by omega]
    · rw [gA_o (by omega), gA_o (by omega), gs_o (by omega)]
      by_cases g : j = i - u
      · subst g
        rw [gs_s, gs_s, show u + (i - u) = i by omega]
        exact ⟨rfl, rfl⟩
      · rw [gs_k (by omega) j0 g, gs_k (by omega) j0 g, gs_o (by omega)]
        exact e2 j j0 (by omega)
  · rintro _ h1 ⟨e, ⟨e0, e1⟩, e2⟩
    rw [k115_1]
    simp +decide (maxSteps := 4000000) (disch := omega) only [k115_0, k115_2, k115_r, k115_s, F_al0, F_al1, T_getI, T_putI, T_putZ, T_I, F_il2, F_is4i, F_is4r, F_is4m, T_ft, F_il4, F_il3, T_icgt, T_getR, X_iald, F_inc4i, F_inc4r, F_inc4m, T_goto, T_ret, c114, show v < v + 1 by omega, TK, lt_run hn, le43, Int.le_refl, Int.lt_irrefl, Option.some.injEq, exists_eq_left', true_and, and_true, if_true, if_false, decide_eq_false_iff_not, decide_eq_true_eq, Nat.reduceAdd, Nat.reduceLeDiff, Nat.reduceLT, Int.reduceAdd, Int.reduceSub, Int.reduceMul, Int.reduceNeg, not_true_eq_false, not_false_eq_true]
    refine k h1 ⟨⟨e0, ?_⟩, fun j j0 j1 => e2 j j0 ?_⟩ e
    · rw [e1]
      show J (v + 1 - u) = J (v - u + 1)
      rw [show v + 1 - u = v - u + 1 by omega]
    · have : j < v - u + 1 := j1
      omega
  · exact Ef.hI (Ef.hI Ef.refl ⟨by omega, by omega⟩) ⟨by omega, by omega⟩
  · rw [hI_k (by decide), hI_s]
  · rw [hI_s, show u - u = 0 by omega]
theorem w39 (F : FH hr) (hn : 775 ≤ n) {d o : Nat} (B : DB d) {ρ : Nat → Nat} (P : PS hr d ρ) (O : SB o) {m : Int} (hm : 0 ≤ m ∧ m < 8) (ap : ρ m.toNat + 3 ≤ o ∨ o + 3 ≤ ρ m.toNat) {s : Stk} (c : h d 1 = J m) (C : SC h o s) (hp : s.2.1 ≤ 10) {u v : Int} (hu : 0 ≤ u) (huv : u ≤ v + 1) (hv : v < s.2.1)
    (k : ∀ h', SC h' (ρ m.toNat) (prt s u v) → h' d 1 = J (m + 1) → Ef (fun x k => Sa (ρ m.toNat) x k ∨ (x = d ∧ k = 1)) h h' → Q (some (.int (J 1)), h', hr, n)) : Sp E 39 [.ref d, .ref o, .int (J u), .int (J v)] h hr n Q := by
  have x1 := B.x E F
  have x2 := B.r
  have p1 := (P.1 m.toNat (by omega)).1
  have pr := P.r (s := m.toNat) (by omega)
  have A := P.sb B (s := m.toNat) (by omega)
  have x3 := A.x E F
  simp +decide (maxSteps := 4000000) (disch := omega) only [k39_0, k39_1, k39_r, k39_s, F_al0, T_getI, T_I, T_iclt, T_ret, T_getR, X_aald, F_al1, F_il2, F_il3, T_dupI, T_dupR, T_add, T_putI, T_putZ, c115, x1, c, p1, x3, show m < 8 by omega, TK, lt_run hn, le43, Int.le_refl, Int.lt_irrefl, Option.some.injEq, exists_eq_left', true_and, and_true, if_true, if_false, decide_eq_false_iff_not, decide_eq_true_eq, Nat.reduceAdd, Nat.reduceLeDiff, Nat.reduceLT, Int.reduceAdd, Int.reduceSub, Int.reduceMul, Int.reduceNeg, not_true_eq_false, not_false_eq_true]
  refine w115 F hn A O ap C hp hu huv hv (fun h1 C1 e1 => ?_)
  have c2 : h1 d 1 = J m := by rw [e1 d 1 (fun q => by unfold Sa at q; omega)]; exact c
  simp +decide (maxSteps := 4000000) (disch := omega) only [k39_0, k39_1, k39_r, k39_s, F_al0, T_getI, T_I, T_iclt, T_ret, T_getR, X_aald, F_al1, F_il2, F_il3, T_dupI, T_dupR, T_add, T_putI, T_putZ, c115, x1, c2, TK, lt_run hn, le43, Int.le_refl, Int.lt_irrefl, Option.some.injEq, exists_eq_left', true_and, and_true, if_true, if_false, decide_eq_false_iff_not, decide_eq_true_eq, Nat.reduceAdd, Nat.reduceLeDiff, Nat.reduceLT, Int.reduceAdd, Int.reduceSub, Int.reduceMul, Int.reduceNeg, not_true_eq_false, not_false_eq_true]
  exact k _ (C1.ef (S := fun x k => x = d) (Ef.refl.hI rfl) (fun x k q1 q2 q => by omega)) hI_s (Ef.hI (e1.mono fun x k q => Or.inl q) (Or.inr ⟨rfl, rfl⟩))
theorem w227 (F : FH hr) (hn : 775 ≤ n) {d s i : Int} (hd : 0 ≤ d ∧ d < 16) (hs : 0 ≤ s ∧ s < 8) (hi : 0 ≤ i ∧ i ≤ 10) {c : Int} (R : Rm h i X Y)
    (k : ∀ h', SM h' (8 * d + s) (c, i, X, Y) → Ef (Sk (8 * d + s).toNat) h h' → Q (none, h', hr, n)) : Sp E 227 [.ref 704, .int (J d), .int (J s), .int (J c)] h hr n Q := by
  have r1 := R.1
  have r2 : sA h 709 (8 * d + s) (J c) 704 15 = J i := by rw [sA_o (by decide)]; exact r1
  simp +decide (maxSteps := 4000000) (disch := omega) only [k227_0, k227_2, k227_r, k227_s, T_I, F_il1, T_mul, F_il2, T_add, F_is4i, F_is4r, F_is4m, F_al0, T_getR, F_il4, F_il3, T_iast, T_getI, F_is5i, F_is5r, F_is5m, T_ft, F_il5, T_icge, X_iald, F_inc5i, F_inc5r, F_inc5m, T_goto, T_ret, FM F, ln_709, ln_710, r2, TK, lt_run hn, le43, Int.le_refl, Int.lt_irrefl, Option.some.injEq, exists_eq_left', true_and, and_true, if_true, if_false, decide_eq_false_iff_not, decide_eq_true_eq, Nat.reduceAdd, Nat.reduceLeDiff, Nat.reduceLT, Int.reduceAdd, Int.reduceSub, Int.reduceMul, Int.reduceNeg, not_true_eq_false, not_false_eq_true]
  have ss : ∀ {h' : AHi}, Ef (Sk (8 * d + s).toNat) h h' → h' 704 15 = J i ∧ ∀ j, 0 ≤ j → j < i → gA h' 713 j = J (X j) ∧ gA h' 714 j = J (Y j) := fun e => by
    refine ⟨?_, fun j j0 j1 => ?_⟩
    · rw [e 704 15 (fun q => by unfold Sk at q; omega)]
      exact r1
    · rw [e.g (fun q => by unfold Sk at q; omega), e.g (fun q => by unfold Sk at q; omega)]
      exact R.2 j j0 j1
  refine T_for (σ := Unit) (fun j _ => [.ref 704, .int (J d), .int (J s), .int (J c), .int (J (8 * d + s)), .int (J j)]) (fun q _ h' => Ef (Sk (8 * d + s).toNat) h h' ∧ (gA h' 709 (8 * d + s) = J c ∧ gA h' 710 (8 * d + s) = J i) ∧ ∀ j, 0 ≤ j → j < q → gA h' 711 (10 * (8 * d + s) + j) = J (X j) ∧ gA h' 712 (10 * (8 * d + s) + j) = J (Y j)) 0 i ?_ ?_ 0 () _ (by omega) (by omega) ⟨?_, ⟨?_, ?_⟩, fun j _ _ => by omega⟩
  · rintro q _ h1 q0 q1 ⟨e, e1, e2⟩ ih
    obtain ⟨a1, a2⟩ := ss e
    have a3 := a2 q q0 q1
    have a4 : gA (sA h1 711 (10 * (8 * d + s) + q) (J (X q))) 714 q = J (Y q) := by rw [gs_o (by decide)]; exact a3.2
    rw [k227_1]
    simp +decide (maxSteps := 4000000) (disch := omega) only [k227_0, k227_2, k227_r, k227_s, T_I, F_il1, T_mul, F_il2, T_add, F_is4i, F_is4r, F_is4m, F_al0, T_getR, F_il4, F_il3, T_iast, T_getI, F_is5i, F_is5r, F_is5m, T_ft, F_il5, T_icge, X_iald, F_inc5i, F_inc5r, F_inc5m, T_goto, T_ret, FM F, a1, a3.1, a4, ln_711, ln_712, ln_713, ln_714, show ¬ i ≤ q by omega, TK, lt_run hn, le43, Int.le_refl, Int.lt_irrefl, Option.some.injEq, exists_eq_left', true_and, and_true, if_true, if_false, decide_eq_false_iff_not, decide_eq_true_eq, Nat.reduceAdd, Nat.reduceLeDiff, Nat.reduceLT, Int.reduceAdd, Int.reduceSub, Int.reduceMul, Int.reduceNeg, not_true_eq_false, not_false_eq_true]
    refine ih () _ ⟨Ef.sA (Ef.sA e ?_) ?_, ?_, fun j j0 j1 => ?_⟩
    · exact Or.inr (Or.inr (Or.inl ⟨rfl, by omega, by omega⟩))
    · exact Or.inr (Or.inr (Or.inr ⟨rfl, by omega, by omega⟩))
    · rw [gs_o (by decide), gs_o (by decide), gs_o (by decide), gs_o (by decide)]
      exact e1
    · rw [gs_o (by decide)]
      by_cases g : j = q
      · subst g
        rw [gs_s, gs_s]
        exact ⟨rfl, rfl⟩
      · rw [gs_k (by omega) (by omega) (by omega), gs_k (by omega) (by omega) (by omega), gs_o (by decide)]
        exact e2 j j0 (by omega)
  · rintro _ h1 ⟨e, e1, e2⟩
    obtain ⟨a1, a2⟩ := ss e
    rw [k227_1]
    simp +decide (maxSteps := 4000000) (disch := omega) only [k227_0, k227_2, k227_r, k227_s, T_I, F_il1, T_mul, F_il2, T_add, F_is4i, F_is4r, F_is4m, F_al0, T_getR, F_il4, F_il3, T_iast, T_getI, F_is5i, F_is5r, F_is5m, T_ft, F_il5, T_icge, X_iald, F_inc5i, F_inc5r, F_inc5m, T_goto, T_ret, FM F, a1, TK, lt_run hn, le43, Int.le_refl, Int.lt_irrefl, Option.some.injEq, exists_eq_left', true_and, and_true, if_true, if_false, decide_eq_false_iff_not, decide_eq_true_eq, Nat.reduceAdd, Nat.reduceLeDiff, Nat.reduceLT, Int.reduceAdd, Int.reduceSub, Int.reduceMul, Int.reduceNeg, not_true_eq_false, not_false_eq_true]
    exact k h1 ⟨e1, e2⟩ e
  · exact (Ef.refl.sA (Or.inl ⟨rfl, rfl⟩)).sA (Or.inr (Or.inl ⟨rfl, rfl⟩))
  · rw [gs_o (by decide), gs_s]
  · rw [gs_s]
/-- what a reading call leaves of the reader -/
theorem Ef_RS {h : AHi} : Ef (fun a k => a = 44 ∧ (k = 2 ∨ k = 3)) h (RS h p f) := Ef.hI (Ef.hI Ef.refl ⟨rfl, Or.inl rfl⟩) ⟨rfl, Or.inr rfl⟩
theorem Ef_MS {h : AHi} : Ef (fun a k => a = 704 ∧ (k = 4 ∨ k = 5)) h (MS h p f) := Ef.hI (Ef.hI Ef.refl ⟨rfl, Or.inl rfl⟩) ⟨rfl, Or.inr rfl⟩
/-- a stroke is read: fault, colour, how many, x, y -/
def rdS (b : Int → Int) (t : Int) : Int × Stk := if (numC b t 1 15 0 (-1)).2.2 = -1 then ((pts b t 11 0 (numC b t 1 15 0 (-1)).2.1 (fun _ => 0) (fun _ => 0)).1, (numC b t 1 15 0 (-1)).1, (pts b t 11 0 (numC b t 1 15 0 (-1)).2.1 (fun _ => 0) (fun _ => 0)).2) else ((numC b t 1 15 0 (-1)).2.2, 0, 0, fun _ => 0, fun _ => 0)
theorem w111 (F : FH hr) (hn : 775 ≤ n) {a : Nat} (A : SB a) (T : TpC h t b)
    (k : ∀ h' p', Ef (Sa a) h h' → 0 ≤ p' → p' ≤ 1700 → ((rdS b t).1 = -1 ∨ 0 ≤ (rdS b t).1 ∧ (rdS b t).1 ≤ 1700) → ((rdS b t).1 = -1 → SR (rdS b t).2 ∧ SC h' a (rdS b t).2) → Q (none, RS h' p' (rdS b t).1, hr, n)) : Sp E 111 [.ref a, .ref 44] h hr n Q := by
  have x1 := A.x E F
  have x2 := A.r
  have t1 := T.1
  have nb := num_b (t := t) (f := -1) T.2.1 T.1 1 15 (p := 0) (by decide) (Or.inl rfl)
  have nr := (num_rel (b := b) (t := t) T.2.1 (lo := 1) (hi := 15) (p := 0) (by decide)).2
  have T0 : TpC (hI h a 1 (J 0)) t b := T.ef (S := fun x k => x = a) (Ef.refl.hI rfl) (by omega) (fun k => by omega)
  unfold rdS at k
  simp +decide (maxSteps := 4000000) (disch := omega) only [k111_0, k111_2, k111_3, k111_r, k111_s, F_al1, F_al0, T_I, T_putI, T_putZ, F_is2i, F_is2r, F_is2m, T_ft, F_il2, T_icgt, J_ifeq, F_inc2i, F_inc2r, F_inc2m, T_goto, T_getI, T_icge, T_ret, c13, c14, c18, c20, c112, ↓s18, ↓s20, x1, RX, ↓s13 F hn, kd_44, TK, lt_run hn, le43, Int.le_refl, Int.lt_irrefl, Option.some.injEq, exists_eq_left', true_and, and_true, if_true, if_false, decide_eq_false_iff_not, decide_eq_true_eq, Nat.reduceAdd, Nat.reduceLeDiff, Nat.reduceLT, Int.reduceAdd, Int.reduceSub, Int.reduceMul, Int.reduceNeg, not_true_eq_false, not_false_eq_true]
  rw [RS_c (by omega)]
  rw [s14 F hn T0 (by decide) (by decide) (by decide) (by decide)]
  simp +decide (maxSteps := 4000000) (disch := omega) only [k111_0, k111_2, k111_3, k111_r, k111_s, F_al1, F_al0, T_I, T_putI, T_putZ, F_is2i, F_is2r, F_is2m, T_ft, F_il2, T_icgt, J_ifeq, F_inc2i, F_inc2r, F_inc2m, T_goto, T_getI, T_icge, T_ret, c13, c14, c18, c20, c112, ↓s13, ↓s18, ↓s20, x1, RX, kd_44, TK, lt_run hn, le43, Int.le_refl, Int.lt_irrefl, Option.some.injEq, exists_eq_left', true_and, and_true, if_true, if_false, decide_eq_false_iff_not, decide_eq_true_eq, Nat.reduceAdd, Nat.reduceLeDiff, Nat.reduceLT, Int.reduceAdd, Int.reduceSub, Int.reduceMul, Int.reduceNeg, not_true_eq_false, not_false_eq_true]
  rw [RS_c (by omega)]
  have e0 : Ef (Sa a) h (hI (hI h a 1 (J 0)) a 0 (J (numC b t 1 15 0 (-1)).1)) := Ef.hI (Ef.hI Ef.refl ⟨by omega, by omega⟩) ⟨by omega, by omega⟩
  have T1 : TpC (hI (hI h a 1 (J 0)) a 0 (J (numC b t 1 15 0 (-1)).1)) t b := T.ef e0 (fun q => by unfold Sa at q; omega) (fun k q => by unfold Sa at q; omega)
  have c1 : hI (hI h a 1 (J 0)) a 0 (J (numC b t 1 15 0 (-1)).1) a 1 = J 0 := by rw [hI_k (by decide), hI_s]
  by_cases g : (numC b t 1 15 0 (-1)).2.2 = -1
  · rw [if_pos g] at k
    obtain ⟨_, q1, q2, q3⟩ := nr g
    rw [g]
    refine z111 F hn A T.1 T.2.1 11 0 _ _ _ _ (by omega) (by omega) (by omega) (by omega) (by omega) (fun _ => by omega) (fun _ => by omega) T1 ⟨c1, fun j _ _ => by omega⟩ (fun h1 p1 a1 a2 a3 a4 a5 a6 => k h1 p1 (e0.trans a3) a1 a2 a5 (fun q => ?_))
    obtain ⟨r1, r2, r3, r4⟩ := a6 q
    refine ⟨⟨q1, r1, fun j => ⟨r2 j, r3 j⟩⟩, ⟨?_, r4.1⟩, r4.2⟩
    rw [a4, hI_s]
  · rw [if_neg g] at k
    rw [k111_1]
    simp +decide (maxSteps := 4000000) (disch := omega) only [k111_0, k111_3, k111_r, k111_s, F_al1, F_al0, T_I, T_putI, T_putZ, F_is2i, F_is2r, F_is2m, T_ft, F_il2, T_icgt, J_ifeq, F_inc2i, F_inc2r, F_inc2m, T_goto, T_getI, T_icge, T_ret, c13, c14, c18, c20, c112, ↓s13, ↓s14, ↓s18, RX, x1, ↓s20 F hn T1, g, kd_44, TK, lt_run hn, le43, Int.le_refl, Int.lt_irrefl, Option.some.injEq, exists_eq_left', true_and, and_true, if_true, if_false, decide_eq_false_iff_not, decide_eq_true_eq, Nat.reduceAdd, Nat.reduceLeDiff, Nat.reduceLT, Int.reduceAdd, Int.reduceSub, Int.reduceMul, Int.reduceNeg, not_true_eq_false, not_false_eq_true]
    rw [e111 F hn A (by omega) nb.2.1 (by decide) c1, rf_n g]
    have e : (if (0 : Int) < 2 then (numC b t 1 15 0 (-1)).2.2 else (numC b t 1 15 0 (-1)).2.2) = (numC b t 1 15 0 (-1)).2.2 := by split <;> rfl
    rw [e]
    exact k _ _ e0 (by omega) (by omega) nb.2.1 (fun q => absurd q g)
end RU
