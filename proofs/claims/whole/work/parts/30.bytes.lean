/-! The class's rows of bytes: writing -/
section BW
variable {E : AEn} {h hi : AHi} {hr : AHr} {n : Nat} {Q : ARs → Prop} {o r : Nat} {cap t : Int} {b : Int → Int}
theorem s11 (O : Ob E hr n o r cap) (w : Int32) (ht : hi o 1 = J t) (h0 : 0 ≤ t) (h1 : t < cap) : Sp E 11 [.ref o, .int w] hi hr n Q ↔ Q (none, hI (sA hi r t (a_byte w)) o 1 (J (t + 1)), hr, n) := by
  obtain ⟨o1, o2, o3, o4, o5, o6, o7, o8, o9, o10, o11⟩ := O
  have e1 : a_ln E r ≤ 60000 := by omega
  have e2 : t < a_ln E r := by omega
  have e3 : sA hi r t (a_byte w) o 1 = J t := by rw [sA_o o11, ht]
  have e4 : ¬ cap ≤ t := by omega
  simp +decide (maxSteps := 4000000) (disch := omega) only [k11_0, k11_1, k11_r, k11_s, F_al0, T_getI, T_getR, J_alen, T_icge, F_il1, T_i2b, T_bast, T_dupI, T_dupR, T_I, T_add, T_putI, T_putZ, T_ft, T_ret, o1, o2, o3, o4, o5, o6, o7, o8, ht, e1, e2, e3, e4, byte_byte, true_or, TK, Option.some.injEq, exists_eq_left', true_and, and_true, if_true, if_false, decide_eq_false_iff_not, decide_eq_true_eq, Nat.reduceAdd, Nat.reduceLeDiff, Nat.reduceLT, Int.reduceAdd, Int.reduceSub, Int.reduceMul, Int.reduceNeg, not_true_eq_false, not_false_eq_true]
theorem BC_put {v : Int} {w : Int32} (B : BC h o r t b) (hne : o ≠ r) (h0 : 0 ≤ t) (hv : a_byte w = a_byte (J v)) : BC (hI (sA h r t (a_byte w)) o 1 (J (t + 1))) o r (t + 1) (upd1 b t v) := by
  refine ⟨hI_s, fun i hi1 hi2 => ?_⟩
  rw [gA_o (Ne.symm hne)]
  unfold upd1
  by_cases e : i = t
  · rw [if_pos e, e, gs_s, hv]
  · rw [if_neg e, gs_k h0 hi1 e]
    exact B.2 i hi1 (by omega)
theorem BC_0 (hb : h o 1 = J 0) : BC h o r 0 b := ⟨hb, fun i h1 h2 => by omega⟩
theorem s9 (O : Ob E hr n o r cap) {k : Int} (ht : hi o 1 = J t) (h0 : 0 ≤ t) (h1 : t ≤ cap) (hk : 0 ≤ k) (hk' : k ≤ 100000) : Sp E 9 [.ref o, .int (J k)] hi hr n Q ↔ Q (some (.int (Bz (decide (t + k ≤ cap)))), hi, hr, n) := by
  obtain ⟨o1, o2, o3, o4, o5, o6, o7, o8, o9, o10, o11⟩ := O
  simp +decide (maxSteps := 4000000) (disch := omega) only [k9_0, k9_1, k9_2, k9_r, k9_s, F_al0, T_getI, F_il1, T_add, T_getR, J_alen, T_icgt, T_I, T_goto, T_ft, T_ret, o1, o2, o3, o4, o5, o6, o7, o8, ht, TK, Option.some.injEq, exists_eq_left', true_and, and_true, if_true, if_false, decide_eq_false_iff_not, decide_eq_true_eq, Nat.reduceAdd, Nat.reduceLeDiff, Nat.reduceLT, Int.reduceAdd, Int.reduceSub, Int.reduceMul, Int.reduceNeg, not_true_eq_false, not_false_eq_true]
  split
  · rw [decide_eq_false (by omega)]; rfl
  · rw [decide_eq_true (by omega)]; rfl
theorem s25 (O : Ob E hr n o r cap) : Sp E 25 [.ref o] hi hr n Q ↔ Q (none, hI hi o 1 (J 0), hr, n) := by
  obtain ⟨o1, o2, o3, o4, o5, o6, o7, o8, o9, o10, o11⟩ := O
  simp +decide (maxSteps := 4000000) (disch := omega) only [k25_0, k25_r, k25_s, F_al0, T_I, T_putI, T_putZ, T_ret, o1, o2, o3, o4, TK, Option.some.injEq, exists_eq_left', true_and, and_true, if_true, if_false, decide_eq_false_iff_not, decide_eq_true_eq, Nat.reduceAdd, Nat.reduceLeDiff, Nat.reduceLT, Int.reduceAdd, Int.reduceSub, Int.reduceMul, Int.reduceNeg, not_true_eq_false, not_false_eq_true]
/-- the byte at a place, or -1 -/
def bt (b : Int → Int) (t i : Int) : Int := if 0 ≤ i ∧ i < t then b i else -1
theorem bt_r (hb : ∀ i, 0 ≤ b i ∧ b i ≤ 255) (i : Int) : -1 ≤ bt b t i ∧ bt b t i ≤ 255 := by
  unfold bt
  have := hb i
  split <;> omega
theorem s12 (O : Ob E hr n o r cap) {i : Int} (B : BC hi o r t b) (hb : ∀ i, 0 ≤ b i ∧ b i ≤ 255) (h0 : 0 ≤ t) (h1 : t ≤ cap) (hi0 : -2147483648 ≤ i) (hi1 : i < 2147483648) : Sp E 12 [.ref o, .int (J i)] hi hr n Q ↔ Q (some (.int (J (bt b t i))), hi, hr, n) := by
  obtain ⟨o1, o2, o3, o4, o5, o6, o7, o8, o9, o10, o11⟩ := O
  obtain ⟨b1, b2⟩ := B
  unfold bt
  by_cases e1 : i < 0
  · rw [if_neg (by omega)]
    simp +decide (maxSteps := 4000000) (disch := omega) only [k12_0, k12_1, k12_2, k12_r, k12_s, F_il1, J_iflt, F_al0, T_getI, T_icge, T_getR, X_bald, T_I, T_and, T_goto, T_ft, T_ret, o1, o2, o3, o4, b1, e1, TK, Option.some.injEq, exists_eq_left', true_and, and_true, if_true, if_false, decide_eq_false_iff_not, decide_eq_true_eq, Nat.reduceAdd, Nat.reduceLeDiff, Nat.reduceLT, Int.reduceAdd, Int.reduceSub, Int.reduceMul, Int.reduceNeg, not_true_eq_false, not_false_eq_true]
  · by_cases e2 : t ≤ i
    · rw [if_neg (by omega)]
      simp +decide (maxSteps := 4000000) (disch := omega) only [k12_0, k12_1, k12_2, k12_r, k12_s, F_il1, J_iflt, F_al0, T_getI, T_icge, T_getR, X_bald, T_I, T_and, T_goto, T_ft, T_ret, o1, o2, o3, o4, b1, e1, e2, TK, Option.some.injEq, exists_eq_left', true_and, and_true, if_true, if_false, decide_eq_false_iff_not, decide_eq_true_eq, Nat.reduceAdd, Nat.reduceLeDiff, Nat.reduceLT, Int.reduceAdd, Int.reduceSub, Int.reduceMul, Int.reduceNeg, not_true_eq_false, not_false_eq_true]
    · rw [if_pos (by omega)]
      have e3 := b2 i (by omega) (by omega)
      have e4 := byte_and (hb i).1 (hb i).2
      have e5 : a_ln E r ≤ 60000 := by omega
      have e6 : i < a_ln E r := by omega
      simp +decide (maxSteps := 4000000) (disch := omega) only [k12_0, k12_1, k12_2, k12_r, k12_s, F_il1, J_iflt, F_al0, T_getI, T_icge, T_getR, X_bald, T_I, T_and, T_goto, T_ft, T_ret, o1, o2, o3, o4, o5, o6, o7, b1, e1, e2, e3, e4, e5, true_or, TK, Option.some.injEq, exists_eq_left', true_and, and_true, if_true, if_false, decide_eq_false_iff_not, decide_eq_true_eq, Nat.reduceAdd, Nat.reduceLeDiff, Nat.reduceLT, Int.reduceAdd, Int.reduceSub, Int.reduceMul, Int.reduceNeg, not_true_eq_false, not_false_eq_true]
end BW
