/-! Texts in THE OUT: numbers, strokes; written -/
def OC (h : AHi) (r : Nat) (l : List Int) : Prop := h 46 1 = J l.length ∧ ∀ i : Int, 0 ≤ i → i < l.length → gA h r i = a_byte (J (l.getD i.toNat 0))
def OM (h : AHi) (l : List Int) : Prop := h 704 7 = J l.length ∧ ∀ i : Int, 0 ≤ i → i < l.length → gA h 707 i = J (l.getD i.toNat 0)
/-- what writing changes -/
def Sw (r a k : Nat) : Prop := (a = 46 ∧ k = 1) ∨ a = r
def Sv (a k : Nat) : Prop := (a = 704 ∧ k = 7) ∨ a = 707
theorem gD_a {l : List Int} {v : Int} {i : Nat} (h : i < l.length) : (l ++ [v]).getD i 0 = l.getD i 0 := by
  rw [List.getD_eq_getElem?_getD, List.getD_eq_getElem?_getD, List.getElem?_append_left h]
theorem gD_b {l : List Int} {v : Int} : (l ++ [v]).getD l.length 0 = v := by
  rw [List.getD_eq_getElem?_getD, List.getElem?_append_right (Nat.le_refl _), Nat.sub_self]
  rfl
/-- the row of THE OUT -/
def Or (E : AEn) (hr : AHr) (n r : Nat) (cap : Int) : Prop := Ob E hr n 46 r cap ∧ (r = 47 ∧ cap = 512 ∨ r = 775 ∧ cap = 49264)
section TX
variable {E : AEn} {h h' : AHi} {hr : AHr} {n r : Nat} {cap : Int} {Q : ARs → Prop} {l : List Int}
theorem w11 (O : Or E hr n r cap) (C : OC h r l) (hl : l.length < cap) {v : Int} (k : ∀ h', OC h' r (l ++ [v]) → Ef (Sw r) h h' → Q (none, h', hr, n)) : Sp E 11 [.ref 46, .int (J v)] h hr n Q := by
  rw [s11 O.1 _ C.1 (by omega) hl]
  have hne : r ≠ 46 := by rcases O.2 with q | q <;> omega
  refine k _ ⟨?_, fun i i0 i1 => ?_⟩ ((Ef.refl.sA (Or.inr rfl)).hI (Or.inl ⟨rfl, rfl⟩))
  · rw [hI_s, List.length_append]
    rfl
  · rw [gA_o hne]
    rw [List.length_append] at i1
    have i1' : i < (l.length : Int) + 1 := i1
    by_cases g : i = l.length
    · subst g
      rw [gs_s, Int.toNat_natCast, gD_b]
    · rw [gs_k (by omega) i0 g, gD_a (by omega)]
      exact C.2 i i0 (by omega)
theorem w233 (F : FH hr) (hn : 775 ≤ n) (C : OM h l) (hl : (l.length : Int) < 49264) {v : Int} (k : ∀ h', OM h' (l ++ [v]) → Ef Sv h h' → Q (none, h', hr, n)) : Sp E 233 [.ref 704, .int (J v)] h hr n Q := by
  have c := C.1
  have c2 : sA h 707 l.length (J v) 704 7 = J l.length := by rw [sA_o (by decide)]; exact c
  simp +decide (maxSteps := 4000000) (disch := omega) only [k233_0, k233_r, k233_s, F_al0, T_getR, T_getI, F_il1, T_iast, T_dupI, T_dupR, T_I, T_add, T_putI, T_putZ, T_ret, FM F, ln_707, c, c2, TK, lt_run hn, le43, Int.le_refl, Int.lt_irrefl, Option.some.injEq, exists_eq_left', true_and, and_true, if_true, if_false, decide_eq_false_iff_not, decide_eq_true_eq, Nat.reduceAdd, Nat.reduceLeDiff, Nat.reduceLT, Int.reduceAdd, Int.reduceSub, Int.reduceMul, Int.reduceNeg, not_true_eq_false, not_false_eq_true]
  refine k _ ⟨?_, fun i i0 i1 => ?_⟩ ((Ef.refl.sA (Or.inr rfl)).hI (Or.inl ⟨rfl, rfl⟩))
  · rw [hI_s, List.length_append]
    rfl
  · rw [gA_o (by decide)]
    rw [List.length_append] at i1
    have i1' : i < (l.length : Int) + 1 := i1
    by_cases g : i = l.length
    · subst g
      rw [gs_s, Int.toNat_natCast, gD_b]
    · rw [gs_k (by omega) i0 g, gD_a (by omega)]
      exact C.2 i i0 (by omega)
/-- a number's digits -/
def dig (v : Int) : List Int := if v < 10 then [48 + v % 10] else [48 + v / 10, 48 + v % 10]
theorem dig_l (v : Int) : 1 ≤ (dig v).length ∧ (dig v).length ≤ 2 := by
  unfold dig
  split
  · exact ⟨Nat.le_refl _, Nat.le_succ _⟩
  · exact ⟨Nat.le_succ _, Nat.le_refl _⟩
theorem w26 (O : Or E hr n r cap) (C : OC h r l) {v : Int} (hl : l.length + 2 ≤ cap) (hv : 0 ≤ v ∧ v ≤ 99) (k : ∀ h', OC h' r (l ++ dig v) → Ef (Sw r) h h' → Q (none, h', hr, n)) : Sp E 26 [.ref 46, .int (J v)] h hr n Q := by
  have o1 := O.1.2.2.2.1
  unfold dig at k
  by_cases g : v < 10
  · rw [if_pos g] at k
    simp +decide (maxSteps := 4000000) (disch := omega) only [k26_0, k26_1, k26_r, k26_s, F_il1, T_I, T_iclt, F_al0, T_div, T_add, T_ft, T_rem, T_ret, c11, ↓s11, g, o1, J_remp, kd_46, TK, le43, Int.le_refl, Int.lt_irrefl, Option.some.injEq, exists_eq_left', true_and, and_true, if_true, if_false, decide_eq_false_iff_not, decide_eq_true_eq, Nat.reduceAdd, Nat.reduceLeDiff, Nat.reduceLT, Int.reduceAdd, Int.reduceSub, Int.reduceMul, Int.reduceNeg, not_true_eq_false, not_false_eq_true]
    refine w11 O C (by omega) (fun h1 C1 e1 => ?_)
    try simp +decide (maxSteps := 4000000) (disch := omega) only [k26_0, k26_1, k26_r, k26_s, F_il1, T_I, T_iclt, F_al0, T_div, T_add, T_ft, T_rem, T_ret, c11, ↓s11, TK, le43, Int.le_refl, Int.lt_irrefl, Option.some.injEq, exists_eq_left', true_and, and_true, if_true, if_false, decide_eq_false_iff_not, decide_eq_true_eq, Nat.reduceAdd, Nat.reduceLeDiff, Nat.reduceLT, Int.reduceAdd, Int.reduceSub, Int.reduceMul, Int.reduceNeg, not_true_eq_false, not_false_eq_true]
    exact k h1 C1 e1
  · rw [if_neg g] at k
    simp +decide (maxSteps := 4000000) (disch := omega) only [k26_0, k26_r, k26_s, F_il1, T_I, T_iclt, F_al0, T_div, T_add, T_ft, T_rem, T_ret, c11, ↓s11, g, o1, J_remp, J_divp, kd_46, TK, le43, Int.le_refl, Int.lt_irrefl, Option.some.injEq, exists_eq_left', true_and, and_true, if_true, if_false, decide_eq_false_iff_not, decide_eq_true_eq, Nat.reduceAdd, Nat.reduceLeDiff, Nat.reduceLT, Int.reduceAdd, Int.reduceSub, Int.reduceMul, Int.reduceNeg, not_true_eq_false, not_false_eq_true]
    refine w11 O C (by omega) (fun h1 C1 e1 => ?_)
    simp +decide (maxSteps := 4000000) (disch := omega) only [k26_0, k26_1, k26_r, k26_s, F_il1, T_I, T_iclt, F_al0, T_div, T_add, T_ft, T_rem, T_ret, c11, ↓s11, o1, J_remp, J_divp, kd_46, TK, le43, Int.le_refl, Int.lt_irrefl, Option.some.injEq, exists_eq_left', true_and, and_true, if_true, if_false, decide_eq_false_iff_not, decide_eq_true_eq, Nat.reduceAdd, Nat.reduceLeDiff, Nat.reduceLT, Int.reduceAdd, Int.reduceSub, Int.reduceMul, Int.reduceNeg, not_true_eq_false, not_false_eq_true]
    refine w11 O C1 (by rw [List.length_append]; show ((l.length + 1 : Nat) : Int) < cap; omega) (fun h2 C2 e2 => ?_)
    simp +decide (maxSteps := 4000000) (disch := omega) only [k26_0, k26_1, k26_r, k26_s, F_il1, T_I, T_iclt, F_al0, T_div, T_add, T_ft, T_rem, T_ret, c11, ↓s11, TK, le43, Int.le_refl, Int.lt_irrefl, Option.some.injEq, exists_eq_left', true_and, and_true, if_true, if_false, decide_eq_false_iff_not, decide_eq_true_eq, Nat.reduceAdd, Nat.reduceLeDiff, Nat.reduceLT, Int.reduceAdd, Int.reduceSub, Int.reduceMul, Int.reduceNeg, not_true_eq_false, not_false_eq_true]
    rw [List.append_assoc] at C2
    exact k h2 C2 (e1.trans e2)
theorem w232 (F : FH hr) (hn : 775 ≤ n) (C : OM h l) {v : Int} (hl : (l.length : Int) + 2 ≤ 49264) (hv : 0 ≤ v ∧ v ≤ 99) (k : ∀ h', OM h' (l ++ dig v) → Ef Sv h h' → Q (none, h', hr, n)) : Sp E 232 [.ref 704, .int (J v)] h hr n Q := by
  unfold dig at k
  by_cases g : v < 10
  · rw [if_pos g] at k
    simp +decide (maxSteps := 4000000) (disch := omega) only [k232_0, k232_2, k232_4, k232_r, k232_s, T_I, F_is2i, F_is2r, F_is2m, T_ft, F_il1, F_il2, T_div, T_icle, T_mul, T_goto, F_is3i, F_is3r, F_is3m, F_il3, J_ifle, F_al0, T_rem, T_add, T_ret, c233, TK, lt_run hn, le43, Int.le_refl, Int.lt_irrefl, Option.some.injEq, exists_eq_left', true_and, and_true, if_true, if_false, decide_eq_false_iff_not, decide_eq_true_eq, Nat.reduceAdd, Nat.reduceLeDiff, Nat.reduceLT, Int.reduceAdd, Int.reduceSub, Int.reduceMul, Int.reduceNeg, not_true_eq_false, not_false_eq_true]
    rw [k232_1]
    simp +decide (maxSteps := 4000000) (disch := omega) only [k232_0, k232_2, k232_4, k232_r, k232_s, T_I, F_is2i, F_is2r, F_is2m, T_ft, F_il1, F_il2, T_div, T_icle, T_mul, T_goto, F_is3i, F_is3r, F_is3m, F_il3, J_ifle, F_al0, T_rem, T_add, T_ret, c233, J_divp, show v / 1 ≤ 9 by omega, TK, lt_run hn, le43, Int.le_refl, Int.lt_irrefl, Option.some.injEq, exists_eq_left', true_and, and_true, if_true, if_false, decide_eq_false_iff_not, decide_eq_true_eq, Nat.reduceAdd, Nat.reduceLeDiff, Nat.reduceLT, Int.reduceAdd, Int.reduceSub, Int.reduceMul, Int.reduceNeg, not_true_eq_false, not_false_eq_true]
    rw [k232_3]
    simp +decide (maxSteps := 4000000) (disch := omega) only [k232_0, k232_2, k232_4, k232_r, k232_s, T_I, F_is2i, F_is2r, F_is2m, T_ft, F_il1, F_il2, T_div, T_icle, T_mul, T_goto, F_is3i, F_is3r, F_is3m, F_il3, J_ifle, F_al0, T_rem, T_add, T_ret, c233, J_divp, J_remp, show v / 1 = v by omega, TK, lt_run hn, le43, Int.le_refl, Int.lt_irrefl, Option.some.injEq, exists_eq_left', true_and, and_true, if_true, if_false, decide_eq_false_iff_not, decide_eq_true_eq, Nat.reduceAdd, Nat.reduceLeDiff, Nat.reduceLT, Int.reduceAdd, Int.reduceSub, Int.reduceMul, Int.reduceNeg, not_true_eq_false, not_false_eq_true]
    refine w233 F hn C (by omega) (fun h1 C1 e1 => ?_)
    simp +decide (maxSteps := 4000000) (disch := omega) only [k232_0, k232_2, k232_4, k232_r, k232_s, T_I, F_is2i, F_is2r, F_is2m, T_ft, F_il1, F_il2, T_div, T_icle, T_mul, T_goto, F_is3i, F_is3r, F_is3m, F_il3, J_ifle, F_al0, T_rem, T_add, T_ret, c233, J_divp, show (1 : Int) / 10 = 0 by rfl, TK, lt_run hn, le43, Int.le_refl, Int.lt_irrefl, Option.some.injEq, exists_eq_left', true_and, and_true, if_true, if_false, decide_eq_false_iff_not, decide_eq_true_eq, Nat.reduceAdd, Nat.reduceLeDiff, Nat.reduceLT, Int.reduceAdd, Int.reduceSub, Int.reduceMul, Int.reduceNeg, not_true_eq_false, not_false_eq_true]
    rw [k232_3]
    simp +decide (maxSteps := 4000000) (disch := omega) only [k232_0, k232_2, k232_4, k232_r, k232_s, T_I, F_is2i, F_is2r, F_is2m, T_ft, F_il1, F_il2, T_div, T_icle, T_mul, T_goto, F_is3i, F_is3r, F_is3m, F_il3, J_ifle, F_al0, T_rem, T_add, T_ret, c233, TK, lt_run hn, le43, Int.le_refl, Int.lt_irrefl, Option.some.injEq, exists_eq_left', true_and, and_true, if_true, if_false, decide_eq_false_iff_not, decide_eq_true_eq, Nat.reduceAdd, Nat.reduceLeDiff, Nat.reduceLT, Int.reduceAdd, Int.reduceSub, Int.reduceMul, Int.reduceNeg, not_true_eq_false, not_false_eq_true]
    exact k h1 C1 e1
  · rw [if_neg g] at k
    simp +decide (maxSteps := 4000000) (disch := omega) only [k232_0, k232_2, k232_4, k232_r, k232_s, T_I, F_is2i, F_is2r, F_is2m, T_ft, F_il1, F_il2, T_div, T_icle, T_mul, T_goto, F_is3i, F_is3r, F_is3m, F_il3, J_ifle, F_al0, T_rem, T_add, T_ret, c233, TK, lt_run hn, le43, Int.le_refl, Int.lt_irrefl, Option.some.injEq, exists_eq_left', true_and, and_true, if_true, if_false, decide_eq_false_iff_not, decide_eq_true_eq, Nat.reduceAdd, Nat.reduceLeDiff, Nat.reduceLT, Int.reduceAdd, Int.reduceSub, Int.reduceMul, Int.reduceNeg, not_true_eq_false, not_false_eq_true]
    rw [k232_1]
    simp +decide (maxSteps := 4000000) (disch := omega) only [k232_0, k232_2, k232_4, k232_r, k232_s, T_I, F_is2i, F_is2r, F_is2m, T_ft, F_il1, F_il2, T_div, T_icle, T_mul, T_goto, F_is3i, F_is3r, F_is3m, F_il3, J_ifle, F_al0, T_rem, T_add, T_ret, c233, J_divp, show ¬ v / 1 ≤ 9 by omega, TK, lt_run hn, le43, Int.le_refl, Int.lt_irrefl, Option.some.injEq, exists_eq_left', true_and, and_true, if_true, if_false, decide_eq_false_iff_not, decide_eq_true_eq, Nat.reduceAdd, Nat.reduceLeDiff, Nat.reduceLT, Int.reduceAdd, Int.reduceSub, Int.reduceMul, Int.reduceNeg, not_true_eq_false, not_false_eq_true]
    rw [k232_1]
    simp +decide (maxSteps := 4000000) (disch := omega) only [k232_0, k232_2, k232_4, k232_r, k232_s, T_I, F_is2i, F_is2r, F_is2m, T_ft, F_il1, F_il2, T_div, T_icle, T_mul, T_goto, F_is3i, F_is3r, F_is3m, F_il3, J_ifle, F_al0, T_rem, T_add, T_ret, c233, J_divp, show v / 10 ≤ 9 by omega, TK, lt_run hn, le43, Int.le_refl, Int.lt_irrefl, Option.some.injEq, exists_eq_left', true_and, and_true, if_true, if_false, decide_eq_false_iff_not, decide_eq_true_eq, Nat.reduceAdd, Nat.reduceLeDiff, Nat.reduceLT, Int.reduceAdd, Int.reduceSub, Int.reduceMul, Int.reduceNeg, not_true_eq_false, not_false_eq_true]
    rw [k232_3]
    simp +decide (maxSteps := 4000000) (disch := omega) only [k232_0, k232_2, k232_4, k232_r, k232_s, T_I, F_is2i, F_is2r, F_is2m, T_ft, F_il1, F_il2, T_div, T_icle, T_mul, T_goto, F_is3i, F_is3r, F_is3m, F_il3, J_ifle, F_al0, T_rem, T_add, T_ret, c233, J_divp, J_remp, show v / 10 % 10 = v / 10 by omega, TK, lt_run hn, le43, Int.le_refl, Int.lt_irrefl, Option.some.injEq, exists_eq_left', true_and, and_true, if_true, if_false, decide_eq_false_iff_not, decide_eq_true_eq, Nat.reduceAdd, Nat.reduceLeDiff, Nat.reduceLT, Int.reduceAdd, Int.reduceSub, Int.reduceMul, Int.reduceNeg, not_true_eq_false, not_false_eq_true]
    refine w233 F hn C (by omega) (fun h1 C1 e1 => ?_)
    simp +decide (maxSteps := 4000000) (disch := omega) only [k232_0, k232_2, k232_4, k232_r, k232_s, T_I, F_is2i, F_is2r, F_is2m, T_ft, F_il1, F_il2, T_div, T_icle, T_mul, T_goto, F_is3i, F_is3r, F_is3m, F_il3, J_ifle, F_al0, T_rem, T_add, T_ret, c233, J_divp, show (10 : Int) / 10 = 1 by rfl, TK, lt_run hn, le43, Int.le_refl, Int.lt_irrefl, Option.some.injEq, exists_eq_left', true_and, and_true, if_true, if_false, decide_eq_false_iff_not, decide_eq_true_eq, Nat.reduceAdd, Nat.reduceLeDiff, Nat.reduceLT, Int.reduceAdd, Int.reduceSub, Int.reduceMul, Int.reduceNeg, not_true_eq_false, not_false_eq_true]
    rw [k232_3]
    simp +decide (maxSteps := 4000000) (disch := omega) only [k232_0, k232_2, k232_4, k232_r, k232_s, T_I, F_is2i, F_is2r, F_is2m, T_ft, F_il1, F_il2, T_div, T_icle, T_mul, T_goto, F_is3i, F_is3r, F_is3m, F_il3, J_ifle, F_al0, T_rem, T_add, T_ret, c233, J_divp, J_remp, show v / 1 = v by omega, TK, lt_run hn, le43, Int.le_refl, Int.lt_irrefl, Option.some.injEq, exists_eq_left', true_and, and_true, if_true, if_false, decide_eq_false_iff_not, decide_eq_true_eq, Nat.reduceAdd, Nat.reduceLeDiff, Nat.reduceLT, Int.reduceAdd, Int.reduceSub, Int.reduceMul, Int.reduceNeg, not_true_eq_false, not_false_eq_true]
    refine w233 F hn C1 (by rw [List.length_append]; show ((l.length + 1 : Nat) : Int) < 49264; omega) (fun h2 C2 e2 => ?_)
    simp +decide (maxSteps := 4000000) (disch := omega) only [k232_0, k232_2, k232_4, k232_r, k232_s, T_I, F_is2i, F_is2r, F_is2m, T_ft, F_il1, F_il2, T_div, T_icle, T_mul, T_goto, F_is3i, F_is3r, F_is3m, F_il3, J_ifle, F_al0, T_rem, T_add, T_ret, c233, J_divp, show (1 : Int) / 10 = 0 by rfl, TK, lt_run hn, le43, Int.le_refl, Int.lt_irrefl, Option.some.injEq, exists_eq_left', true_and, and_true, if_true, if_false, decide_eq_false_iff_not, decide_eq_true_eq, Nat.reduceAdd, Nat.reduceLeDiff, Nat.reduceLT, Int.reduceAdd, Int.reduceSub, Int.reduceMul, Int.reduceNeg, not_true_eq_false, not_false_eq_true]
    rw [k232_3]
    simp +decide (maxSteps := 4000000) (disch := omega) only [k232_0, k232_2, k232_4, k232_r, k232_s, T_I, F_is2i, F_is2r, F_is2m, T_ft, F_il1, F_il2, T_div, T_icle, T_mul, T_goto, F_is3i, F_is3r, F_is3m, F_il3, J_ifle, F_al0, T_rem, T_add, T_ret, c233, TK, lt_run hn, le43, Int.le_refl, Int.lt_irrefl, Option.some.injEq, exists_eq_left', true_and, and_true, if_true, if_false, decide_eq_false_iff_not, decide_eq_true_eq, Nat.reduceAdd, Nat.reduceLeDiff, Nat.reduceLT, Int.reduceAdd, Int.reduceSub, Int.reduceMul, Int.reduceNeg, not_true_eq_false, not_false_eq_true]
    rw [List.append_assoc] at C2
    exact k h2 C2 (e1.trans e2)
/-- the text of a stroke -/
def ptx (s : Stk) : Nat → List Int
  | 0 => []
  | k + 1 => ptx s k ++ [32] ++ dig (s.2.2.1 k) ++ [44] ++ dig (s.2.2.2 k)
def stx (s : Stk) : List Int := dig s.1 ++ ptx s s.2.1.toNat ++ [10]
def dtx (D : Drw) : Nat → List Int
  | 0 => []
  | k + 1 => dtx D k ++ stx (D.2 k)
theorem ptx_l (s : Stk) : ∀ k, (ptx s k).length ≤ 6 * k := by
  intro k
  induction k with
  | zero => exact Nat.le_refl _
  | succ k ih =>
    have h1 := dig_l (s.2.2.1 k)
    have h2 := dig_l (s.2.2.2 k)
    unfold ptx
    simp only [List.length_append, List.length_cons, List.length_nil]
    omega
theorem stx_l {s : Stk} (R : SR s) : (stx s).length ≤ 63 := by
  have h1 := dig_l s.1
  have h2 := ptx_l s s.2.1.toNat
  have h3 := R.2.1
  unfold stx
  simp only [List.length_append, List.length_cons, List.length_nil]
  omega
theorem dtx_l {D : Drw} (R : DRr D) : ∀ k, (dtx D k).length ≤ 63 * k := by
  intro k
  induction k with
  | zero => exact Nat.le_refl _
  | succ k ih =>
    have h1 := stx_l (R.2 k)
    unfold dtx
    simp only [List.length_append]
    omega
theorem ptx_s (s : Stk) {i : Int} (h : 0 ≤ i) : ptx s (i + 1).toNat = ptx s i.toNat ++ [32] ++ dig (s.2.2.1 i) ++ [44] ++ dig (s.2.2.2 i) := by
  rw [show (i + 1).toNat = i.toNat + 1 by omega]
  show ptx s i.toNat ++ [32] ++ dig (s.2.2.1 (i.toNat : Int)) ++ [44] ++ dig (s.2.2.2 (i.toNat : Int)) = _
  rw [Int.toNat_of_nonneg h]
theorem w116 (F : FH hr) (hn : 775 ≤ n) (O : Or E hr n r cap) {a : Nat} (A : SB a) {s : Stk} (S : SC h a s) (R : SR s) (C : OC h r l) (hl : l.length + 63 ≤ cap) (k : ∀ h', OC h' r (l ++ stx s) → Ef (Sw r) h h' → Q (none, h', hr, n)) : Sp E 116 [.ref a, .ref 46] h hr n Q := by
  have x1 := A.x E F
  have x2 := A.r
  have r1 := R.1
  have r2 := R.2.1
  have c1 := S.1.1
  have hs : ∀ x k, a ≤ x → x ≤ a + 2 → ¬ Sw r x k := fun x k h1 h2 q => by
    rcases O.2 with o | o <;> rcases q with q | q <;> omega
  simp +decide (maxSteps := 4000000) (disch := omega) only [k116_0, k116_2, k116_r, k116_s, F_al1, F_al0, T_getI, T_I, F_is2i, F_is2r, F_is2m, T_ft, F_il2, T_icge, T_getR, X_iald, F_inc2i, F_inc2r, F_inc2m, T_goto, T_ret, c11, c26, ↓s11, x1, c1, kd_46, TK, lt_run hn, le43, Int.le_refl, Int.lt_irrefl, Option.some.injEq, exists_eq_left', true_and, and_true, if_true, if_false, decide_eq_false_iff_not, decide_eq_true_eq, Nat.reduceAdd, Nat.reduceLeDiff, Nat.reduceLT, Int.reduceAdd, Int.reduceSub, Int.reduceMul, Int.reduceNeg, not_true_eq_false, not_false_eq_true]
  refine w26 O C (by omega) (by omega) (fun h1 C1 e1 => ?_)
  simp +decide (maxSteps := 4000000) (disch := omega) only [k116_0, k116_2, k116_r, k116_s, F_al1, F_al0, T_getI, T_I, F_is2i, F_is2r, F_is2m, T_ft, F_il2, T_icge, T_getR, X_iald, F_inc2i, F_inc2r, F_inc2m, T_goto, T_ret, c11, c26, ↓s11, TK, lt_run hn, le43, Int.le_refl, Int.lt_irrefl, Option.some.injEq, exists_eq_left', true_and, and_true, if_true, if_false, decide_eq_false_iff_not, decide_eq_true_eq, Nat.reduceAdd, Nat.reduceLeDiff, Nat.reduceLT, Int.reduceAdd, Int.reduceSub, Int.reduceMul, Int.reduceNeg, not_true_eq_false, not_false_eq_true]
  refine T_for (σ := Unit) (fun i _ => [.ref a, .ref 46, .int (J i)]) (fun i _ h' => Ef (Sw r) h h' ∧ OC h' r (l ++ dig s.1 ++ ptx s i.toNat)) 0 s.2.1 ?_ ?_ 0 () h1 (by omega) (by omega) ⟨e1, ?_⟩
  · rintro i _ h2 i0 i1 ⟨e2, C2⟩ ih
    have S2 := S.ef e2 hs
    have c2 := S2.1.2
    have c3 := S2.2 i i0 i1
    have r3 := R.2.2 i
    have g1 := dig_l s.1
    have g2 := ptx_l s i.toNat
    have g3 := dig_l (s.2.2.1 i)
    rw [k116_1]
    simp +decide (maxSteps := 4000000) (disch := omega) only [k116_0, k116_2, k116_r, k116_s, F_al1, F_al0, T_getI, T_I, F_is2i, F_is2r, F_is2m, T_ft, F_il2, T_icge, T_getR, X_iald, F_inc2i, F_inc2r, F_inc2m, T_goto, T_ret, c11, c26, ↓s11, x1, c2, kd_46, show ¬ s.2.1 ≤ i by omega, TK, lt_run hn, le43, Int.le_refl, Int.lt_irrefl, Option.some.injEq, exists_eq_left', true_and, and_true, if_true, if_false, decide_eq_false_iff_not, decide_eq_true_eq, Nat.reduceAdd, Nat.reduceLeDiff, Nat.reduceLT, Int.reduceAdd, Int.reduceSub, Int.reduceMul, Int.reduceNeg, not_true_eq_false, not_false_eq_true]
    refine w11 O C2 (by simp only [List.length_append]; omega) (fun h3 C3 e3 => ?_)
    have S3 := S2.ef e3 hs
    have c4 := S3.2 i i0 i1
    simp +decide (maxSteps := 4000000) (disch := omega) only [k116_0, k116_2, k116_r, k116_s, F_al1, F_al0, T_getI, T_I, F_is2i, F_is2r, F_is2m, T_ft, F_il2, T_icge, T_getR, X_iald, F_inc2i, F_inc2r, F_inc2m, T_goto, T_ret, c11, c26, ↓s11, x1, c4, kd_46, TK, lt_run hn, le43, Int.le_refl, Int.lt_irrefl, Option.some.injEq, exists_eq_left', true_and, and_true, if_true, if_false, decide_eq_false_iff_not, decide_eq_true_eq, Nat.reduceAdd, Nat.reduceLeDiff, Nat.reduceLT, Int.reduceAdd, Int.reduceSub, Int.reduceMul, Int.reduceNeg, not_true_eq_false, not_false_eq_true]
    refine w26 O C3 (by simp only [List.length_append, List.length_cons, List.length_nil]; omega) (by omega) (fun h4 C4 e4 => ?_)
    simp +decide (maxSteps := 4000000) (disch := omega) only [k116_0, k116_2, k116_r, k116_s, F_al1, F_al0, T_getI, T_I, F_is2i, F_is2r, F_is2m, T_ft, F_il2, T_icge, T_getR, X_iald, F_inc2i, F_inc2r, F_inc2m, T_goto, T_ret, c11, c26, ↓s11, x1, kd_46, TK, lt_run hn, le43, Int.le_refl, Int.lt_irrefl, Option.some.injEq, exists_eq_left', true_and, and_true, if_true, if_false, decide_eq_false_iff_not, decide_eq_true_eq, Nat.reduceAdd, Nat.reduceLeDiff, Nat.reduceLT, Int.reduceAdd, Int.reduceSub, Int.reduceMul, Int.reduceNeg, not_true_eq_false, not_false_eq_true]
    refine w11 O C4 (by simp only [List.length_append, List.length_cons, List.length_nil]; omega) (fun h5 C5 e5 => ?_)
    have S5 := (S3.ef e4 hs).ef e5 hs
    have c6 := S5.2 i i0 i1
    simp +decide (maxSteps := 4000000) (disch := omega) only [k116_0, k116_2, k116_r, k116_s, F_al1, F_al0, T_getI, T_I, F_is2i, F_is2r, F_is2m, T_ft, F_il2, T_icge, T_getR, X_iald, F_inc2i, F_inc2r, F_inc2m, T_goto, T_ret, c11, c26, ↓s11, x1, c6, kd_46, TK, lt_run hn, le43, Int.le_refl, Int.lt_irrefl, Option.some.injEq, exists_eq_left', true_and, and_true, if_true, if_false, decide_eq_false_iff_not, decide_eq_true_eq, Nat.reduceAdd, Nat.reduceLeDiff, Nat.reduceLT, Int.reduceAdd, Int.reduceSub, Int.reduceMul, Int.reduceNeg, not_true_eq_false, not_false_eq_true]
    refine w26 O C5 (by simp only [List.length_append, List.length_cons, List.length_nil]; omega) (by omega) (fun h6 C6 e6 => ?_)
    simp +decide (maxSteps := 4000000) (disch := omega) only [k116_0, k116_2, k116_r, k116_s, F_al1, F_al0, T_getI, T_I, F_is2i, F_is2r, F_is2m, T_ft, F_il2, T_icge, T_getR, X_iald, F_inc2i, F_inc2r, F_inc2m, T_goto, T_ret, c11, c26, ↓s11, TK, lt_run hn, le43, Int.le_refl, Int.lt_irrefl, Option.some.injEq, exists_eq_left', true_and, and_true, if_true, if_false, decide_eq_false_iff_not, decide_eq_true_eq, Nat.reduceAdd, Nat.reduceLeDiff, Nat.reduceLT, Int.reduceAdd, Int.reduceSub, Int.reduceMul, Int.reduceNeg, not_true_eq_false, not_false_eq_true]
    refine ih () _ ⟨(((e2.trans e3).trans e4).trans e5).trans e6, ?_⟩
    rw [ptx_s s i0]
    simp only [List.append_assoc] at C6 ⊢
    exact C6
  · rintro _ h2 ⟨e2, C2⟩
    have c2 := (S.ef e2 hs).1.2
    have g1 := dig_l s.1
    have g2 := ptx_l s s.2.1.toNat
    rw [k116_1]
    simp +decide (maxSteps := 4000000) (disch := omega) only [k116_0, k116_2, k116_r, k116_s, F_al1, F_al0, T_getI, T_I, F_is2i, F_is2r, F_is2m, T_ft, F_il2, T_icge, T_getR, X_iald, F_inc2i, F_inc2r, F_inc2m, T_goto, T_ret, c11, c26, ↓s11, x1, c2, kd_46, TK, lt_run hn, le43, Int.le_refl, Int.lt_irrefl, Option.some.injEq, exists_eq_left', true_and, and_true, if_true, if_false, decide_eq_false_iff_not, decide_eq_true_eq, Nat.reduceAdd, Nat.reduceLeDiff, Nat.reduceLT, Int.reduceAdd, Int.reduceSub, Int.reduceMul, Int.reduceNeg, not_true_eq_false, not_false_eq_true]
    refine w11 O C2 (by simp only [List.length_append]; omega) (fun h3 C3 e3 => ?_)
    simp +decide (maxSteps := 4000000) (disch := omega) only [k116_0, k116_2, k116_r, k116_s, F_al1, F_al0, T_getI, T_I, F_is2i, F_is2r, F_is2m, T_ft, F_il2, T_icge, T_getR, X_iald, F_inc2i, F_inc2r, F_inc2m, T_goto, T_ret, c11, c26, ↓s11, TK, lt_run hn, le43, Int.le_refl, Int.lt_irrefl, Option.some.injEq, exists_eq_left', true_and, and_true, if_true, if_false, decide_eq_false_iff_not, decide_eq_true_eq, Nat.reduceAdd, Nat.reduceLeDiff, Nat.reduceLT, Int.reduceAdd, Int.reduceSub, Int.reduceMul, Int.reduceNeg, not_true_eq_false, not_false_eq_true]
    refine k h3 ?_ (e2.trans e3)
    unfold stx
    simp only [List.append_assoc] at C3 ⊢
    exact C3
  · show OC h1 r (l ++ dig s.1 ++ [])
    rw [List.append_nil]
    exact C1
end TX
