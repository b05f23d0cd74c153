/-! node: the names of the kinds -/
section NM
variable {E : AEn} {h h' : AHi} {hr : AHr} {n : Nat} {Q : ARs → Prop} {t p f m k w e : Int} {b V : Int → Int}
/-- the string a, its bytes at c, is L -/
def StrC (E : AEn) (a c : Nat) (L : List Int) : Prop := (a < 43 ∧ c < 43) ∧ a_kd a = 13 ∧ a_kd c = 21 ∧ a_ln E c = L.length ∧ (L.length : Int) ≤ 6 ∧ (∀ hr : AHr, rR hr a 0 = some c) ∧ (∀ h : AHi, rI E h a 1 = J 0) ∧ (∀ (h : AHi) (i : Int), 0 ≤ i → i < L.length → rX E h c (J i) = J (L.getD i.toNat 0) ∧ 97 ≤ L.getD i.toNat 0 ∧ L.getD i.toNat 0 ≤ 122)
theorem rv_b0 : a_rv (some .byte) 1 [.int (J 0)] = some (some (.int (J 0))) := by decide +kernel
theorem chr_t : ∀ k : Nat, k < 26 → a_char (J (97 + (k : Int)) &&& J 255) = J (97 + (k : Int)) ∧ a_char (J (97 + (k : Int))) = J (97 + (k : Int)) := by decide +kernel
theorem chr_o {v : Int} (h : 97 ≤ v ∧ v ≤ 122) : a_char (J v &&& J 255) = J v ∧ a_char (J v) = J v := by
  have := chr_t (v - 97).toNat (by omega)
  rw [show (97 : Int) + ((v - 97).toNat : Nat) = v by omega] at this
  exact this
theorem rv_c {v : Int} (h : 97 ≤ v ∧ v ≤ 122) : a_rv (some .char) 1 [.int (J v)] = some (some (.int (J v))) := if_pos (chr_o h).2
theorem shr_t : ∀ k : Nat, k < 7 → J (k : Int) >>> (J 0 &&& 31) = J (k : Int) := by decide +kernel
theorem shr_o {v : Nat} (h : v ≤ 6) : J (v : Int) >>> (J 0 &&& 31) = J (v : Int) := shr_t v (by omega)
theorem w339 (hn : 775 ≤ n) {a c : Nat} {L : List Int} (S : StrC E a c L) : Sp E 339 [.ref a] h hr n Q ↔ Q (some (.int (J L.length)), h, hr, n) := by
  obtain ⟨⟨y1, y2⟩, y3, y4, y5, y6, y7, y8, y9⟩ := S
  have y7' := y7 hr
  have y8' := y8 h
  have z := shr_o (v := L.length) (by omega)
  simp +decide (maxSteps := 4000000) (disch := omega) only [k339_0, k339_r, k339_s, F_al0, T_getR, J_alen, T_shr, T_ret, c340, y3, y4, y5, y7', y8', show a < n by omega, show c < n by omega, ↓reduceIte, TK, lt_run hn, le43, Int.le_refl, Int.lt_irrefl, Option.some.injEq, exists_eq_left', true_and, and_true, if_true, if_false, decide_eq_false_iff_not, decide_eq_true_eq, Nat.reduceAdd, Nat.reduceLeDiff, Nat.reduceLT, Int.reduceAdd, Int.reduceSub, Int.reduceMul, Int.reduceNeg, not_true_eq_false, not_false_eq_true]
  simp +decide (maxSteps := 4000000) (disch := omega) only [k340_0, k340_1, k340_2, k340_r, k340_s, T_I, J_ifeq, F_al0, T_getI, T_goto, T_ft, T_ret, y3, y8', rv_b0, show a < n by omega, ↓reduceIte, TK, lt_run hn, le43, Int.le_refl, Int.lt_irrefl, Option.some.injEq, exists_eq_left', true_and, and_true, if_true, if_false, decide_eq_false_iff_not, decide_eq_true_eq, Nat.reduceAdd, Nat.reduceLeDiff, Nat.reduceLT, Int.reduceAdd, Int.reduceSub, Int.reduceMul, Int.reduceNeg, not_true_eq_false, not_false_eq_true]
  simp +decide (maxSteps := 4000000) (disch := omega) only [k339_0, k339_r, k339_s, F_al0, T_getR, J_alen, T_shr, T_ret, c340, z, ↓reduceIte, TK, lt_run hn, le43, Int.le_refl, Int.lt_irrefl, Option.some.injEq, exists_eq_left', true_and, and_true, if_true, if_false, decide_eq_false_iff_not, decide_eq_true_eq, Nat.reduceAdd, Nat.reduceLeDiff, Nat.reduceLT, Int.reduceAdd, Int.reduceSub, Int.reduceMul, Int.reduceNeg, not_true_eq_false, not_false_eq_true]
theorem w343 (hn : 775 ≤ n) {i l : Int} (h0 : 0 ≤ i) (h1 : i < l) (h2 : l ≤ 100) : Sp E 343 [.int (J i), .int (J l)] h hr n Q ↔ Q (none, h, hr, n) := by
  simp +decide (maxSteps := 4000000) (disch := omega) only [k343_0, k343_r, k343_s, F_il0, F_il1, T_cR, T_popI, T_ret, c358, ↓reduceIte, TK, lt_run hn, le43, Int.le_refl, Int.lt_irrefl, Option.some.injEq, exists_eq_left', true_and, and_true, if_true, if_false, decide_eq_false_iff_not, decide_eq_true_eq, Nat.reduceAdd, Nat.reduceLeDiff, Nat.reduceLT, Int.reduceAdd, Int.reduceSub, Int.reduceMul, Int.reduceNeg, not_true_eq_false, not_false_eq_true]
  simp +decide (maxSteps := 4000000) (disch := omega) only [k358_0, k358_1, k358_2, k358_r, k358_s, F_il0, J_iflt, F_il1, T_iclt, T_ft, F_al2, T_ret, show ¬ i < 0 by omega, h1, ↓reduceIte, TK, lt_run hn, le43, Int.le_refl, Int.lt_irrefl, Option.some.injEq, exists_eq_left', true_and, and_true, if_true, if_false, decide_eq_false_iff_not, decide_eq_true_eq, Nat.reduceAdd, Nat.reduceLeDiff, Nat.reduceLT, Int.reduceAdd, Int.reduceSub, Int.reduceMul, Int.reduceNeg, not_true_eq_false, not_false_eq_true]
  try simp +decide (maxSteps := 4000000) (disch := omega) only [k343_0, k343_r, k343_s, F_il0, F_il1, T_cR, T_popI, T_ret, c358, ↓reduceIte, TK, lt_run hn, le43, Int.le_refl, Int.lt_irrefl, Option.some.injEq, exists_eq_left', true_and, and_true, if_true, if_false, decide_eq_false_iff_not, decide_eq_true_eq, Nat.reduceAdd, Nat.reduceLeDiff, Nat.reduceLT, Int.reduceAdd, Int.reduceSub, Int.reduceMul, Int.reduceNeg, not_true_eq_false, not_false_eq_true]
theorem w341 (hn : 775 ≤ n) {a c : Nat} {L : List Int} (S : StrC E a c L) {i : Int} (h0 : 0 ≤ i) (h1 : i < L.length) : Sp E 341 [.ref a, .int (J i)] h hr n Q ↔ Q (some (.int (J (L.getD i.toNat 0))), h, hr, n) := by
  obtain ⟨⟨y1, y2⟩, y3, y4, y5, y6, y7, y8, y9⟩ := S
  have y7' := y7 hr
  have y8' := y8 h
  obtain ⟨r1, r2⟩ := y9 h i h0 h1
  have r3 := (chr_o r2).1
  have r4 := rv_c r2
  simp +decide (maxSteps := 4000000) (disch := omega) only [k341_0, k341_1, k341_r, k341_s, F_al0, J_ifeq, T_getR, F_il1, T_ret, c342, c351, c352, y3, y7', y8', show a < n by omega, ↓reduceIte, TK, lt_run hn, le43, Int.le_refl, Int.lt_irrefl, Option.some.injEq, exists_eq_left', true_and, and_true, if_true, if_false, decide_eq_false_iff_not, decide_eq_true_eq, Nat.reduceAdd, Nat.reduceLeDiff, Nat.reduceLT, Int.reduceAdd, Int.reduceSub, Int.reduceMul, Int.reduceNeg, not_true_eq_false, not_false_eq_true]
  simp +decide (maxSteps := 4000000) (disch := omega) only [k342_0, k342_1, k342_2, k342_r, k342_s, T_I, J_ifeq, F_al0, T_getI, J_ifne, T_goto, T_ft, T_ret, y3, y8', show a < n by omega, ↓reduceIte, TK, lt_run hn, le43, Int.le_refl, Int.lt_irrefl, Option.some.injEq, exists_eq_left', true_and, and_true, if_true, if_false, decide_eq_false_iff_not, decide_eq_true_eq, Nat.reduceAdd, Nat.reduceLeDiff, Nat.reduceLT, Int.reduceAdd, Int.reduceSub, Int.reduceMul, Int.reduceNeg, not_true_eq_false, not_false_eq_true]
  simp +decide (maxSteps := 4000000) (disch := omega) only [k341_0, k341_1, k341_r, k341_s, F_al0, J_ifeq, T_getR, F_il1, T_ret, c342, c351, c352, y3, y4, y7', y8', show a < n by omega, show c < n by omega, ↓reduceIte, TK, lt_run hn, le43, Int.le_refl, Int.lt_irrefl, Option.some.injEq, exists_eq_left', true_and, and_true, if_true, if_false, decide_eq_false_iff_not, decide_eq_true_eq, Nat.reduceAdd, Nat.reduceLeDiff, Nat.reduceLT, Int.reduceAdd, Int.reduceSub, Int.reduceMul, Int.reduceNeg, not_true_eq_false, not_false_eq_true]
  simp +decide (maxSteps := 4000000) (disch := omega) only [k351_0, k351_r, k351_s, F_il1, F_al0, J_alen, X_bald, T_I, T_and, T_i2c, T_ret, c343, y4, y5, show c < n by omega, ↓reduceIte, TK, lt_run hn, le43, Int.le_refl, Int.lt_irrefl, Option.some.injEq, exists_eq_left', true_and, and_true, if_true, if_false, decide_eq_false_iff_not, decide_eq_true_eq, Nat.reduceAdd, Nat.reduceLeDiff, Nat.reduceLT, Int.reduceAdd, Int.reduceSub, Int.reduceMul, Int.reduceNeg, not_true_eq_false, not_false_eq_true]
  rw [w343 hn h0 h1 (by omega)]
  simp +decide (maxSteps := 4000000) (disch := omega) only [k351_0, k351_r, k351_s, F_il1, F_al0, J_alen, X_bald, T_I, T_and, T_i2c, T_ret, c343, y4, y5, r1, r3, r4, true_or, show c < n by omega, ↓reduceIte, TK, lt_run hn, le43, Int.le_refl, Int.lt_irrefl, Option.some.injEq, exists_eq_left', true_and, and_true, if_true, if_false, decide_eq_false_iff_not, decide_eq_true_eq, Nat.reduceAdd, Nat.reduceLeDiff, Nat.reduceLT, Int.reduceAdd, Int.reduceSub, Int.reduceMul, Int.reduceNeg, not_true_eq_false, not_false_eq_true]
  try simp +decide (maxSteps := 4000000) (disch := omega) only [k341_0, k341_1, k341_r, k341_s, F_al0, J_ifeq, T_getR, F_il1, T_ret, c342, c351, c352, r4, ↓reduceIte, TK, lt_run hn, le43, Int.le_refl, Int.lt_irrefl, Option.some.injEq, exists_eq_left', true_and, and_true, if_true, if_false, decide_eq_false_iff_not, decide_eq_true_eq, Nat.reduceAdd, Nat.reduceLeDiff, Nat.reduceLT, Int.reduceAdd, Int.reduceSub, Int.reduceMul, Int.reduceNeg, not_true_eq_false, not_false_eq_true]
end NM
