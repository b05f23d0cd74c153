/-! Leaves: pure methods of both sides -/
theorem lc_lt (x y : Int64) : (lg_cmp x y < J 0) = (x < y) := propext (lg_cmp_lt x y)
theorem lc_ge (x y : Int64) : (J 0 ≤ lg_cmp x y) = (y ≤ x) := propext (lg_cmp_ge x y)
theorem lc_le (x y : Int64) : (lg_cmp x y ≤ J 0) = (x ≤ y) := propext (lg_cmp_le x y)
theorem lc_gt (x y : Int64) : (J 0 < lg_cmp x y) = (y < x) := propext (lg_cmp_gt x y)
theorem lc_eq (x y : Int64) : (lg_cmp x y = J 0) = (x = y) := propext (lg_cmp_eq x y)
theorem L_le {a b : Int} (h : -9223372036854775808 ≤ a) (h' : a < 9223372036854775808) (k : -9223372036854775808 ≤ b) (k' : b < 9223372036854775808) : (L a ≤ L b) = (a ≤ b) := by
  rw [Int64.le_iff_toInt_le, L_toInt h h', L_toInt k k']
theorem LC : (type_of% @lc_lt) ∧ (type_of% @lc_eq) ∧ (type_of% @lc_ge) ∧ (type_of% @lc_le) ∧ (type_of% @lc_gt) ∧ (type_of% @L_le) ∧ (type_of% @L_cmp_lt) ∧ (type_of% @L_eq) := ⟨@lc_lt, @lc_eq, @lc_ge, @lc_le, @lc_gt, @L_le, @L_cmp_lt, @L_eq⟩
theorem L_xs {a b : Int} (h : -9223372036854775808 ≤ a) (h' : a < 9223372036854775808) (k : 0 < b) (k' : b < 9223372036854775808) : (L 0 ≤ L a ^^^ L b) = (0 ≤ a) := by
  have h1 : (L 0 ≤ L a ^^^ L b) ↔ ¬ ((L a ^^^ L b).toBitVec.msb = true) := by
    rw [Int64.le_iff_toInt_le, BitVec.msb_eq_toInt, decide_eq_true_eq]
    show (0 : Int) ≤ (L a ^^^ L b).toBitVec.toInt ↔ _
    omega
  have ha : (L a).toBitVec.msb = decide (a < 0) := by
    rw [BitVec.msb_eq_toInt]
    have : (L a).toBitVec.toInt = a := L_toInt h h'
    rw [this]
  have hb : (L b).toBitVec.msb = decide (b < 0) := by
    rw [BitVec.msb_eq_toInt]
    have : (L b).toBitVec.toInt = b := L_toInt (by omega) k'
    rw [this]
  rw [propext h1]
  have e : (L a ^^^ L b).toBitVec.msb = decide (a < 0) := by
    show ((L a).toBitVec ^^^ (L b).toBitVec).msb = _
    rw [BitVec.msb_xor, ha, hb, decide_eq_false (show ¬ b < 0 by omega), Bool.xor_false]
  rw [e, decide_eq_true_eq]
  exact propext (by omega)
theorem J_xs {a b : Int} (h : -2147483648 ≤ a) (h' : a < 2147483648) (k : 0 < b) (k' : b < 2147483648) : (J 0 ≤ J a ^^^ J b) = (0 ≤ a) := by
  have h1 : (J 0 ≤ J a ^^^ J b) ↔ ¬ ((J a ^^^ J b).toBitVec.msb = true) := by
    rw [Int32.le_iff_toInt_le, BitVec.msb_eq_toInt, decide_eq_true_eq]
    show (0 : Int) ≤ (J a ^^^ J b).toBitVec.toInt ↔ _
    omega
  have ha : (J a).toBitVec.msb = decide (a < 0) := by
    rw [BitVec.msb_eq_toInt]
    have : (J a).toBitVec.toInt = a := J_toInt h h'
    rw [this]
  have hb : (J b).toBitVec.msb = decide (b < 0) := by
    rw [BitVec.msb_eq_toInt]
    have : (J b).toBitVec.toInt = b := J_toInt (by omega) k'
    rw [this]
  rw [propext h1]
  have e : (J a ^^^ J b).toBitVec.msb = decide (a < 0) := by
    show ((J a).toBitVec ^^^ (J b).toBitVec).msb = _
    rw [BitVec.msb_xor, ha, hb, decide_eq_false (show ¬ b < 0 by omega), Bool.xor_false]
  rw [e, decide_eq_true_eq]
  exact propext (by omega)
theorem L_div {a b : Int} (h : -9223372036854775808 < a) (h' : a < 9223372036854775808) (k : -9223372036854775808 ≤ b) (k' : b < 9223372036854775808) : L a / L b = L (a.tdiv b) := by
  rw [← Int64.toInt_inj]
  have hm : L a ≠ Int64.minValue := fun e => by
    have := congrArg Int64.toInt e
    rw [L_toInt (by omega) h'] at this
    have h2 : Int64.minValue.toInt = -9223372036854775808 := by decide
    omega
  rw [Int64.toInt_div_of_ne_left _ _ hm, L_toInt (by omega) h', L_toInt k k']
  have h1 : a.tdiv b ≤ 9223372036854775807 ∧ -9223372036854775807 ≤ a.tdiv b := by
    have h2 := Int.natAbs_tdiv_le_natAbs a b
    omega
  rw [L_toInt (by omega) (by omega)]
/-- floor out of a division that goes to 0 -/
theorem fl_p {a b : Int} (h : 0 ≤ a) : a.tdiv b = a / b := Int.tdiv_eq_ediv_of_nonneg h
theorem fl_d {a b : Int} (h : a.tdiv b * b = a) (hb : 0 < b) : a.tdiv b = a / b := by
  conv => rhs; rw [← h]
  rw [Int.mul_ediv_cancel _ (by omega)]
theorem fl_n {a b : Int} (h : ¬ 0 ≤ a) (hb : 0 < b) (hd : ¬ a.tdiv b * b = a) : a.tdiv b - 1 = a / b := by
  have h1 := Int.tdiv_eq_ediv (a := a) (b := b)
  have h2 : ¬ (0 ≤ a ∨ b ∣ a) := by
    rintro (q | q)
    · exact h q
    · exact hd (Int.tdiv_mul_cancel q)
  rw [if_neg h2, Int.sign_eq_one_of_pos hb] at h1
  omega
section LF
variable {E : AEn} {hi : AHi} {hr : AHr} {n : Nat} {Q : ARs → Prop}
theorem s348 {a b : Int} (h : -4611686018427387904 < a) (h' : a < 4611686018427387904) (k : 0 < b) (k' : b < 4611686018427387904) : Sp E 348 [.long (L a), .long (L b)] hi hr n Q ↔ Q (some (.long (L (a / b))), hi, hr, n) := by
  have hq : -4611686018427387904 < a.tdiv b ∧ a.tdiv b < 4611686018427387904 := by
    have h2 := Int.natAbs_tdiv_le_natAbs a b
    omega
  have hm : -4611686018427387904 < a.tdiv b * b ∧ a.tdiv b * b < 4611686018427387904 := by
    have h2 : (a.tdiv b * b).natAbs ≤ a.natAbs := by rw [Int.natAbs_mul, Int.natAbs_tdiv]; exact Nat.div_mul_le_self _ _
    omega
  have hb0 : ¬ L b = 0 := by
    rw [show (0 : Int64) = L 0 from rfl, L_eq (by omega) (by omega) (by omega) (by omega)]
    omega
  simp +decide (maxSteps := 4000000) (disch := omega) only [k348_0, k348_1, k348_r, k348_s, F_ll0, F_ll2, T_divL, T_lst, T_xorL, T_L, T_lcmp, J_ifge, F_ll4, T_mulL, J_ifeq, T_subL, T_ret, LC, L_div, L_xs, hb0, ne_eq, nl_m, TK, Option.some.injEq, exists_eq_left', true_and, and_true, if_true, if_false, decide_eq_false_iff_not, decide_eq_true_eq, Nat.reduceAdd, Nat.reduceLeDiff, Nat.reduceLT, Int.reduceAdd, Int.reduceSub, Int.reduceMul, Int.reduceNeg, not_true_eq_false, not_false_eq_true]
  split
  · rw [fl_p (by assumption)]
  · split
    · rw [fl_d (by assumption) k]
    · rw [fl_n (by assumption) k (by assumption)]
theorem s350 {a b : Int} (h : -2147483648 < a) (h' : a < 2147483648) (k : 0 < b) (k' : b < 2147483648) : Sp E 350 [.int (J a), .int (J b)] hi hr n Q ↔ Q (some (.int (J (a / b))), hi, hr, n) := by
  have hq : -2147483648 < a.tdiv b ∧ a.tdiv b < 2147483648 := by
    have h2 := Int.natAbs_tdiv_le_natAbs a b
    omega
  have hm : -2147483648 < a.tdiv b * b ∧ a.tdiv b * b < 2147483648 := by
    have h2 : (a.tdiv b * b).natAbs ≤ a.natAbs := by rw [Int.natAbs_mul, Int.natAbs_tdiv]; exact Nat.div_mul_le_self _ _
    omega
  have hb0 : ¬ J b = 0 := by
    rw [show (0 : Int32) = J 0 from rfl, J_eq (by omega) (by omega) (by omega) (by omega)]
    omega
  simp +decide (maxSteps := 4000000) (disch := omega) only [k350_0, k350_1, k350_r, k350_s, F_il0, F_il1, T_div, F_is2i, F_is2r, F_is2m, T_xor, J_ifge, F_il2, T_mul, T_iceq, T_I, T_sub, T_ret, J_div, J_xs, hb0, ne_eq, TK, Option.some.injEq, exists_eq_left', true_and, and_true, if_true, if_false, decide_eq_false_iff_not, decide_eq_true_eq, Nat.reduceAdd, Nat.reduceLeDiff, Nat.reduceLT, Int.reduceAdd, Int.reduceSub, Int.reduceMul, Int.reduceNeg, not_true_eq_false, not_false_eq_true]
  split
  · rw [fl_p (by assumption)]
  · split
    · rw [fl_d (by assumption) k]
    · rw [fl_n (by assumption) k (by assumption)]
theorem s346 {a : Int} (h : -2147483648 < a) (h' : a < 2147483648) : Sp E 346 [.int (J a)] hi hr n Q ↔ Q (some (.int (J (if 0 ≤ a then a else -a))), hi, hr, n) := by
  simp +decide (maxSteps := 4000000) (disch := omega) only [k346_0, k346_1, k346_2, k346_r, k346_s, F_il0, J_ifge, T_neg, T_goto, T_ft, T_ret, TK, Option.some.injEq, exists_eq_left', true_and, and_true, if_true, if_false, decide_eq_false_iff_not, decide_eq_true_eq, Nat.reduceAdd, Nat.reduceLeDiff, Nat.reduceLT, Int.reduceAdd, Int.reduceSub, Int.reduceMul, Int.reduceNeg, not_true_eq_false, not_false_eq_true]
  split <;> rfl
theorem s347 {a b : Int} (h : -2147483648 ≤ a) (h' : a < 2147483648) (k : -2147483648 ≤ b) (k' : b < 2147483648) : Sp E 347 [.int (J a), .int (J b)] hi hr n Q ↔ Q (some (.int (J (if a < b then b else a))), hi, hr, n) := by
  simp +decide (maxSteps := 4000000) (disch := omega) only [k347_0, k347_1, k347_2, k347_r, k347_s, F_il0, F_il1, T_iclt, T_goto, T_ft, T_ret, TK, Option.some.injEq, exists_eq_left', true_and, and_true, if_true, if_false, decide_eq_false_iff_not, decide_eq_true_eq, Nat.reduceAdd, Nat.reduceLeDiff, Nat.reduceLT, Int.reduceAdd, Int.reduceSub, Int.reduceMul, Int.reduceNeg, not_true_eq_false, not_false_eq_true]
  split <;> rfl
theorem s349 {a b : Int} (h : -2147483648 ≤ a) (h' : a < 2147483648) (k : -2147483648 ≤ b) (k' : b < 2147483648) : Sp E 349 [.int (J a), .int (J b)] hi hr n Q ↔ Q (some (.int (J (if b < a then b else a))), hi, hr, n) := by
  simp +decide (maxSteps := 4000000) (disch := omega) only [k349_0, k349_1, k349_2, k349_r, k349_s, F_il0, F_il1, T_icgt, T_goto, T_ft, T_ret, TK, Option.some.injEq, exists_eq_left', true_and, and_true, if_true, if_false, decide_eq_false_iff_not, decide_eq_true_eq, Nat.reduceAdd, Nat.reduceLeDiff, Nat.reduceLT, Int.reduceAdd, Int.reduceSub, Int.reduceMul, Int.reduceNeg, not_true_eq_false, not_false_eq_true]
  split <;> rfl
theorem s138 {a b c : Int} (h : -2147483648 ≤ a) (h' : a < 2147483648) (k : -2147483648 ≤ b) (k' : b < 2147483648) (i : -2147483648 ≤ c) (i' : c < 2147483648) : Sp E 138 [.int (J a), .int (J b), .int (J c)] hi hr n Q ↔ Q (some (.int (Bz (decide (b ≤ a ∧ a ≤ c)))), hi, hr, n) := by
  simp +decide (maxSteps := 4000000) (disch := omega) only [k138_0, k138_1, k138_2, k138_r, k138_s, F_il1, F_il0, T_icgt, F_il2, T_I, T_goto, T_ft, T_ret, TK, Option.some.injEq, exists_eq_left', true_and, and_true, if_true, if_false, decide_eq_false_iff_not, decide_eq_true_eq, Nat.reduceAdd, Nat.reduceLeDiff, Nat.reduceLT, Int.reduceAdd, Int.reduceSub, Int.reduceMul, Int.reduceNeg, not_true_eq_false, not_false_eq_true]
  split
  · rw [decide_eq_false (by omega)]; rfl
  · split
    · rw [decide_eq_false (by omega)]; rfl
    · rw [decide_eq_true (by omega)]; rfl
theorem s137 {a : Int} (h : -2147483648 ≤ a) (h' : a < 2147483648) : Sp E 137 [.int (J a)] hi hr n Q ↔ Q (some (.int (Bz (decide (0 ≤ a ∧ a ≤ 15)))), hi, hr, n) := by
  simp +decide (maxSteps := 4000000) (disch := omega) only [k137_0, k137_r, k137_s, F_il0, T_I, T_ret, c138, ↓s138, TK, Option.some.injEq, exists_eq_left', true_and, and_true, if_true, if_false, decide_eq_false_iff_not, decide_eq_true_eq, Nat.reduceAdd, Nat.reduceLeDiff, Nat.reduceLT, Int.reduceAdd, Int.reduceSub, Int.reduceMul, Int.reduceNeg, not_true_eq_false, not_false_eq_true]
theorem s150 {a : Int} (h : -2147483648 ≤ a) (h' : a < 2147483648) : Sp E 150 [.int (J a)] hi hr n Q ↔ Q (some (.int (Bz (decide (1 ≤ a ∧ a ≤ 15)))), hi, hr, n) := by
  simp +decide (maxSteps := 4000000) (disch := omega) only [k150_0, k150_r, k150_s, F_il0, T_I, T_ret, c138, ↓s138, TK, Option.some.injEq, exists_eq_left', true_and, and_true, if_true, if_false, decide_eq_false_iff_not, decide_eq_true_eq, Nat.reduceAdd, Nat.reduceLeDiff, Nat.reduceLT, Int.reduceAdd, Int.reduceSub, Int.reduceMul, Int.reduceNeg, not_true_eq_false, not_false_eq_true]
theorem s158 {a : Int} (h : -2147483648 ≤ a) (h' : a < 2147483648) : Sp E 158 [.int (J a)] hi hr n Q ↔ Q (some (.int (Bz (decide (0 ≤ a ∧ a ≤ 3)))), hi, hr, n) := by
  simp +decide (maxSteps := 4000000) (disch := omega) only [k158_0, k158_r, k158_s, F_il0, T_I, T_ret, c138, ↓s138, TK, Option.some.injEq, exists_eq_left', true_and, and_true, if_true, if_false, decide_eq_false_iff_not, decide_eq_true_eq, Nat.reduceAdd, Nat.reduceLeDiff, Nat.reduceLT, Int.reduceAdd, Int.reduceSub, Int.reduceMul, Int.reduceNeg, not_true_eq_false, not_false_eq_true]
theorem s173 {a : Int} (h : -2147483648 ≤ a) (h' : a < 2147483648) : Sp E 173 [.int (J a)] hi hr n Q ↔ Q (some (.int (Bz (decide (0 ≤ a ∧ a ≤ 119)))), hi, hr, n) := by
  simp +decide (maxSteps := 4000000) (disch := omega) only [k173_0, k173_r, k173_s, F_il0, T_I, T_ret, c138, ↓s138, TK, Option.some.injEq, exists_eq_left', true_and, and_true, if_true, if_false, decide_eq_false_iff_not, decide_eq_true_eq, Nat.reduceAdd, Nat.reduceLeDiff, Nat.reduceLT, Int.reduceAdd, Int.reduceSub, Int.reduceMul, Int.reduceNeg, not_true_eq_false, not_false_eq_true]
theorem s171 {a b : Int} (h : -2147483648 ≤ a) (h' : a < 2147483648) (k : -2147483648 ≤ b) (k' : b < 2147483648) : Sp E 171 [.int (J a), .int (J b)] hi hr n Q ↔ Q (some (.int (Bz (decide ((-400 ≤ a ∧ a ≤ 400) ∧ (-400 ≤ b ∧ b ≤ 400))))), hi, hr, n) := by
  simp +decide (maxSteps := 4000000) (disch := omega) only [k171_0, k171_1, k171_2, k171_r, k171_s, F_il0, T_I, J_ifeq, F_il1, T_goto, T_ft, T_ret, c138, ↓s138, TK, Option.some.injEq, exists_eq_left', true_and, and_true, if_true, if_false, decide_eq_false_iff_not, decide_eq_true_eq, Nat.reduceAdd, Nat.reduceLeDiff, Nat.reduceLT, Int.reduceAdd, Int.reduceSub, Int.reduceMul, Int.reduceNeg, not_true_eq_false, not_false_eq_true]
  split
  · rw [decide_eq_false (by omega)]; rfl
  · split
    · rw [decide_eq_false (by omega)]; rfl
    · rw [decide_eq_true (by omega)]; rfl
theorem s145 {a b : Int} (h : -2147483648 ≤ a) (h' : a < 2147483648) (k : -2147483648 ≤ b) (k' : b < 2147483648) : Sp E 145 [.int (J a), .int (J b)] hi hr n Q ↔ Q (some (.int (Bz (decide ((0 ≤ a ∧ a ≤ 47) ∧ (0 ≤ b ∧ b ≤ 31))))), hi, hr, n) := by
  simp +decide (maxSteps := 4000000) (disch := omega) only [k145_0, k145_1, k145_2, k145_r, k145_s, T_I, F_il0, T_icgt, T_icge, F_il1, T_goto, T_ft, T_ret, TK, Option.some.injEq, exists_eq_left', true_and, and_true, if_true, if_false, decide_eq_false_iff_not, decide_eq_true_eq, Nat.reduceAdd, Nat.reduceLeDiff, Nat.reduceLT, Int.reduceAdd, Int.reduceSub, Int.reduceMul, Int.reduceNeg, not_true_eq_false, not_false_eq_true]
  repeat' split
  all_goals first | (rw [decide_eq_false (by omega)]; rfl) | (rw [decide_eq_true (by omega)]; rfl)
theorem s151 {a b : Int} : Sp E 151 [.int (J a), .int (J b)] hi hr n Q ↔ Q (some (.int (J (b * 48 + a))), hi, hr, n) := by
  simp +decide (maxSteps := 4000000) (disch := omega) only [k151_0, k151_r, k151_s, F_il1, T_I, T_mul, F_il0, T_add, T_ret, TK, Option.some.injEq, exists_eq_left', true_and, and_true, if_true, if_false, decide_eq_false_iff_not, decide_eq_true_eq, Nat.reduceAdd, Nat.reduceLeDiff, Nat.reduceLT, Int.reduceAdd, Int.reduceSub, Int.reduceMul, Int.reduceNeg, not_true_eq_false, not_false_eq_true]
/-- ROUND -/
def rd (a b : Int) : Int := (2 * a + b) / (2 * b)
theorem s146 {a b : Int} (h : -1000000000000000000 < a) (h' : a < 1000000000000000000) (k : 0 < b) (k' : b < 1000000000000000000) : Sp E 146 [.long (L a), .long (L b)] hi hr n Q ↔ Q (some (.int (J (rd a b))), hi, hr, n) := by
  simp +decide (maxSteps := 4000000) (disch := omega) only [k146_0, k146_1, k146_2, k146_r, k146_s, F_ll2, T_L, T_lcmp, J_ifle, F_ll0, T_mulL, T_addL, T_l2i, T_goto, T_I, T_ft, T_ret, c348, ↓s348, LC, TK, Option.some.injEq, exists_eq_left', true_and, and_true, if_true, if_false, decide_eq_false_iff_not, decide_eq_true_eq, Nat.reduceAdd, Nat.reduceLeDiff, Nat.reduceLT, Int.reduceAdd, Int.reduceSub, Int.reduceMul, Int.reduceNeg, not_true_eq_false, not_false_eq_true]
  rw [if_neg (by omega)]
  exact Iff.rfl
/-- the hash's one step -/
def stir (h x : Int32) : Int32 := ((h ^^^ x) * J 16777619) ^^^ a_ushr ((h ^^^ x) * J 16777619) (J 15)
def hsh (s a b c d : Int32) : Int32 := stir (stir (stir (stir s a) b) c) d
theorem s200 {a b : Int32} : Sp E 200 [.int a, .int b] hi hr n Q ↔ Q (some (.int (stir a b)), hi, hr, n) := by
  simp +decide (maxSteps := 4000000) (disch := omega) only [k200_0, k200_r, k200_s, F_il0, F_il1, T_xor, T_I, T_mul, F_is2i, F_is2r, F_is2m, F_il2, T_ushr, T_ret, TK, Option.some.injEq, exists_eq_left', true_and, and_true, if_true, if_false, decide_eq_false_iff_not, decide_eq_true_eq, Nat.reduceAdd, Nat.reduceLeDiff, Nat.reduceLT, Int.reduceAdd, Int.reduceSub, Int.reduceMul, Int.reduceNeg, not_true_eq_false, not_false_eq_true]
  exact Iff.rfl
theorem s199 {s a b c d : Int32} : Sp E 199 [.int s, .int a, .int b, .int c, .int d] hi hr n Q ↔ Q (some (.int (hsh s a b c d)), hi, hr, n) := by
  simp +decide (maxSteps := 4000000) (disch := omega) only [k199_0, k199_r, k199_s, F_il0, F_il1, F_il2, F_il3, F_il4, T_ret, c200, ↓s200, TK, Option.some.injEq, exists_eq_left', true_and, and_true, if_true, if_false, decide_eq_false_iff_not, decide_eq_true_eq, Nat.reduceAdd, Nat.reduceLeDiff, Nat.reduceLT, Int.reduceAdd, Int.reduceSub, Int.reduceMul, Int.reduceNeg, not_true_eq_false, not_false_eq_true]
  exact Iff.rfl
def kpt (v m : Int) : Int := if v < 0 then 0 else if m < v then m else v
theorem s201 {a b : Int} (h : -2147483648 ≤ a) (h' : a < 2147483648) (k : 0 ≤ b) (k' : b < 2147483648) : Sp E 201 [.int (J a), .int (J b)] hi hr n Q ↔ Q (some (.int (J (kpt a b))), hi, hr, n) := by
  simp +decide (maxSteps := 4000000) (disch := omega) only [k201_0, k201_r, k201_s, T_I, F_il1, F_il0, T_ret, c347, c349, ↓s349, TK, Option.some.injEq, exists_eq_left', true_and, and_true, if_true, if_false, decide_eq_false_iff_not, decide_eq_true_eq, Nat.reduceAdd, Nat.reduceLeDiff, Nat.reduceLT, Int.reduceAdd, Int.reduceSub, Int.reduceMul, Int.reduceNeg, not_true_eq_false, not_false_eq_true]
  have e : (if a < b then a else b) < 2147483648 ∧ -2147483648 ≤ (if a < b then a else b) := by split <;> omega
  rw [s347 (by omega) (by omega) e.2 e.1]
  simp +decide (maxSteps := 4000000) (disch := omega) only [k201_0, k201_r, k201_s, T_I, F_il1, F_il0, T_ret, c347, c349, ↓s349, TK, Option.some.injEq, exists_eq_left', true_and, and_true, if_true, if_false, decide_eq_false_iff_not, decide_eq_true_eq, Nat.reduceAdd, Nat.reduceLeDiff, Nat.reduceLT, Int.reduceAdd, Int.reduceSub, Int.reduceMul, Int.reduceNeg, not_true_eq_false, not_false_eq_true]
  have e2 : (if 0 < (if a < b then a else b) then (if a < b then a else b) else 0) = kpt a b := by
    unfold kpt
    repeat' split
    all_goals omega
  rw [e2]
theorem s82 {a b : Int} : Sp E 82 [.int (J a), .int (J b)] hi hr n Q ↔ Q (some (.int (J (a * 9 + b))), hi, hr, n) := by
  simp +decide (maxSteps := 4000000) (disch := omega) only [k82_0, k82_r, k82_s, F_il0, T_I, T_mul, F_il1, T_add, T_ret, TK, Option.some.injEq, exists_eq_left', true_and, and_true, if_true, if_false, decide_eq_false_iff_not, decide_eq_true_eq, Nat.reduceAdd, Nat.reduceLeDiff, Nat.reduceLT, Int.reduceAdd, Int.reduceSub, Int.reduceMul, Int.reduceNeg, not_true_eq_false, not_false_eq_true]
/-! the reference's -/
theorem s219 {a b c : Int} (h : -2147483648 ≤ a) (h' : a < 2147483648) (k : -2147483648 ≤ b) (k' : b < 2147483648) (i : -2147483648 ≤ c) (i' : c < 2147483648) : Sp E 219 [.int (J a), .int (J b), .int (J c)] hi hr n Q ↔ Q (some (.int (Bz (decide (b ≤ a ∧ a ≤ c)))), hi, hr, n) := by
  simp +decide (maxSteps := 4000000) (disch := omega) only [k219_0, k219_1, k219_2, k219_r, k219_s, F_il0, F_il1, T_iclt, F_il2, T_icgt, T_I, T_goto, T_ft, T_ret, TK, Option.some.injEq, exists_eq_left', true_and, and_true, if_true, if_false, decide_eq_false_iff_not, decide_eq_true_eq, Nat.reduceAdd, Nat.reduceLeDiff, Nat.reduceLT, Int.reduceAdd, Int.reduceSub, Int.reduceMul, Int.reduceNeg, not_true_eq_false, not_false_eq_true]
  split
  · rw [decide_eq_false (by omega)]; rfl
  · split
    · rw [decide_eq_false (by omega)]; rfl
    · rw [decide_eq_true (by omega)]; rfl
theorem s218 {a : Int} (h : -2147483648 ≤ a) (h' : a < 2147483648) : Sp E 218 [.int (J a)] hi hr n Q ↔ Q (some (.int (Bz (decide (0 ≤ a ∧ a ≤ 15)))), hi, hr, n) := by
  simp +decide (maxSteps := 4000000) (disch := omega) only [k218_0, k218_r, k218_s, F_il0, T_I, T_ret, c219, ↓s219, TK, Option.some.injEq, exists_eq_left', true_and, and_true, if_true, if_false, decide_eq_false_iff_not, decide_eq_true_eq, Nat.reduceAdd, Nat.reduceLeDiff, Nat.reduceLT, Int.reduceAdd, Int.reduceSub, Int.reduceMul, Int.reduceNeg, not_true_eq_false, not_false_eq_true]
theorem s264 {a : Int} (h : -2147483648 ≤ a) (h' : a < 2147483648) : Sp E 264 [.int (J a)] hi hr n Q ↔ Q (some (.int (Bz (decide (0 ≤ a ∧ a ≤ 3)))), hi, hr, n) := by
  simp +decide (maxSteps := 4000000) (disch := omega) only [k264_0, k264_r, k264_s, F_il0, T_I, T_ret, c219, ↓s219, TK, Option.some.injEq, exists_eq_left', true_and, and_true, if_true, if_false, decide_eq_false_iff_not, decide_eq_true_eq, Nat.reduceAdd, Nat.reduceLeDiff, Nat.reduceLT, Int.reduceAdd, Int.reduceSub, Int.reduceMul, Int.reduceNeg, not_true_eq_false, not_false_eq_true]
theorem s287 {a : Int} (h : -2147483648 ≤ a) (h' : a < 2147483648) : Sp E 287 [.int (J a)] hi hr n Q ↔ Q (some (.int (Bz (decide (0 ≤ a ∧ a ≤ 119)))), hi, hr, n) := by
  simp +decide (maxSteps := 4000000) (disch := omega) only [k287_0, k287_r, k287_s, F_il0, T_I, T_ret, c219, ↓s219, TK, Option.some.injEq, exists_eq_left', true_and, and_true, if_true, if_false, decide_eq_false_iff_not, decide_eq_true_eq, Nat.reduceAdd, Nat.reduceLeDiff, Nat.reduceLT, Int.reduceAdd, Int.reduceSub, Int.reduceMul, Int.reduceNeg, not_true_eq_false, not_false_eq_true]
theorem s223 {a : Int} (h : -2147483648 ≤ a) (h' : a < 2147483648) : Sp E 223 [.int (J a)] hi hr n Q ↔ Q (some (.int (Bz (decide (48 ≤ a ∧ a ≤ 57)))), hi, hr, n) := by
  simp +decide (maxSteps := 4000000) (disch := omega) only [k223_0, k223_1, k223_2, k223_r, k223_s, F_il0, T_I, T_iclt, T_icgt, T_goto, T_ft, T_ret, TK, Option.some.injEq, exists_eq_left', true_and, and_true, if_true, if_false, decide_eq_false_iff_not, decide_eq_true_eq, Nat.reduceAdd, Nat.reduceLeDiff, Nat.reduceLT, Int.reduceAdd, Int.reduceSub, Int.reduceMul, Int.reduceNeg, not_true_eq_false, not_false_eq_true]
  repeat' split
  all_goals first | (rw [decide_eq_false (by omega)]; rfl) | (rw [decide_eq_true (by omega)]; rfl)
theorem s300 {a : Int} (h : -2147483648 ≤ a) (h' : a < 2147483648) : Sp E 300 [.int (J a)] hi hr n Q ↔ Q (some (.int (Bz (decide (97 ≤ a ∧ a ≤ 122)))), hi, hr, n) := by
  simp +decide (maxSteps := 4000000) (disch := omega) only [k300_0, k300_1, k300_2, k300_r, k300_s, F_il0, T_I, T_iclt, T_icgt, T_goto, T_ft, T_ret, TK, Option.some.injEq, exists_eq_left', true_and, and_true, if_true, if_false, decide_eq_false_iff_not, decide_eq_true_eq, Nat.reduceAdd, Nat.reduceLeDiff, Nat.reduceLT, Int.reduceAdd, Int.reduceSub, Int.reduceMul, Int.reduceNeg, not_true_eq_false, not_false_eq_true]
  repeat' split
  all_goals first | (rw [decide_eq_false (by omega)]; rfl) | (rw [decide_eq_true (by omega)]; rfl)
theorem s237 {a b : Int} (h : -2147483648 ≤ a) (h' : a < 2147483648) (k : -2147483648 ≤ b) (k' : b < 2147483648) : Sp E 237 [.int (J a), .int (J b)] hi hr n Q ↔ Q (some (.int (Bz (decide ((0 ≤ a ∧ a ≤ 47) ∧ (0 ≤ b ∧ b ≤ 31))))), hi, hr, n) := by
  simp +decide (maxSteps := 4000000) (disch := omega) only [k237_0, k237_1, k237_2, k237_r, k237_s, F_il0, T_I, J_ifeq, F_il1, T_goto, T_ft, T_ret, c219, ↓s219, TK, Option.some.injEq, exists_eq_left', true_and, and_true, if_true, if_false, decide_eq_false_iff_not, decide_eq_true_eq, Nat.reduceAdd, Nat.reduceLeDiff, Nat.reduceLT, Int.reduceAdd, Int.reduceSub, Int.reduceMul, Int.reduceNeg, not_true_eq_false, not_false_eq_true]
  repeat' split
  all_goals first | (rw [decide_eq_false (by omega)]; rfl) | (rw [decide_eq_true (by omega)]; rfl)
theorem s240 {a : Int} (h : -2147483648 < a) (h' : a < 2147483648) : Sp E 240 [.int (J a)] hi hr n Q ↔ Q (some (.int (J (if 0 ≤ a then a else -a))), hi, hr, n) := by
  simp +decide (maxSteps := 4000000) (disch := omega) only [k240_0, k240_1, k240_2, k240_r, k240_s, F_il0, J_ifge, T_neg, T_goto, T_ft, T_ret, TK, Option.some.injEq, exists_eq_left', true_and, and_true, if_true, if_false, decide_eq_false_iff_not, decide_eq_true_eq, Nat.reduceAdd, Nat.reduceLeDiff, Nat.reduceLT, Int.reduceAdd, Int.reduceSub, Int.reduceMul, Int.reduceNeg, not_true_eq_false, not_false_eq_true]
  split <;> rfl
theorem s241 {a b : Int} (h : -2147483648 ≤ a) (h' : a < 2147483648) (k : -2147483648 ≤ b) (k' : b < 2147483648) : Sp E 241 [.int (J a), .int (J b)] hi hr n Q ↔ Q (some (.int (J (if a ≤ b then b else a))), hi, hr, n) := by
  simp +decide (maxSteps := 4000000) (disch := omega) only [k241_0, k241_1, k241_2, k241_r, k241_s, F_il0, F_il1, T_icle, T_goto, T_ft, T_ret, TK, Option.some.injEq, exists_eq_left', true_and, and_true, if_true, if_false, decide_eq_false_iff_not, decide_eq_true_eq, Nat.reduceAdd, Nat.reduceLeDiff, Nat.reduceLT, Int.reduceAdd, Int.reduceSub, Int.reduceMul, Int.reduceNeg, not_true_eq_false, not_false_eq_true]
  split <;> rfl
/-- how many steps a line has -/
def stp (dx dy : Int) : Int := if (dx.natAbs : Int) ≤ dy.natAbs then dy.natAbs else dx.natAbs
theorem s239 {a b c d : Int} (h : -1000000 < a) (h' : a < 1000000) (k : -1000000 < b) (k' : b < 1000000) (i : -1000000 < c) (i' : c < 1000000) (j : -1000000 < d) (j' : d < 1000000) : Sp E 239 [.int (J a), .int (J b), .int (J c), .int (J d)] hi hr n Q ↔ Q (some (.int (J (stp (c - a) (d - b)))), hi, hr, n) := by
  simp +decide (maxSteps := 4000000) (disch := omega) only [k239_0, k239_r, k239_s, F_il2, F_il0, T_sub, F_il3, F_il1, T_ret, c240, c241, ↓s240, TK, Option.some.injEq, exists_eq_left', true_and, and_true, if_true, if_false, decide_eq_false_iff_not, decide_eq_true_eq, Nat.reduceAdd, Nat.reduceLeDiff, Nat.reduceLT, Int.reduceAdd, Int.reduceSub, Int.reduceMul, Int.reduceNeg, not_true_eq_false, not_false_eq_true]
  rw [show (if 0 ≤ c - a then c - a else -(c - a)) = ((c - a).natAbs : Int) by split <;> omega, show (if 0 ≤ d - b then d - b else -(d - b)) = ((d - b).natAbs : Int) by split <;> omega, s241 (by omega) (by omega) (by omega) (by omega)]
  simp +decide (maxSteps := 4000000) (disch := omega) only [k239_0, k239_r, k239_s, F_il2, F_il0, T_sub, F_il3, F_il1, T_ret, c240, c241, ↓s240, TK, Option.some.injEq, exists_eq_left', true_and, and_true, if_true, if_false, decide_eq_false_iff_not, decide_eq_true_eq, Nat.reduceAdd, Nat.reduceLeDiff, Nat.reduceLT, Int.reduceAdd, Int.reduceSub, Int.reduceMul, Int.reduceNeg, not_true_eq_false, not_false_eq_true]
  exact Iff.rfl
theorem s244 {a b : Int} (h : -4611686018427387904 < a) (h' : a < 4611686018427387904) (k : 0 < b) (k' : b < 4611686018427387904) : Sp E 244 [.long (L a), .long (L b)] hi hr n Q ↔ Q (some (.long (L (a / b))), hi, hr, n) := by
  have hq : -4611686018427387904 < a.tdiv b ∧ a.tdiv b < 4611686018427387904 := by
    have h2 := Int.natAbs_tdiv_le_natAbs a b
    omega
  have hm : -4611686018427387904 < a.tdiv b * b ∧ a.tdiv b * b < 4611686018427387904 := by
    have h2 : (a.tdiv b * b).natAbs ≤ a.natAbs := by rw [Int.natAbs_mul, Int.natAbs_tdiv]; exact Nat.div_mul_le_self _ _
    omega
  have hb0 : ¬ L b = 0 := by
    rw [show (0 : Int64) = L 0 from rfl, L_eq (by omega) (by omega) (by omega) (by omega)]
    omega
  have hr : a_remL (L a) (L b) = L (a - a.tdiv b * b) := by
    unfold a_remL
    rw [L_div (by omega) (by omega) (by omega) (by omega), L_mul, L_sub]
  simp +decide (maxSteps := 4000000) (disch := omega) only [k244_0, k244_1, k244_2, k244_3, k244_4, k244_5, k244_6, k244_r, k244_s, F_ll0, F_ll2, T_divL, T_lst, T_remL, T_L, T_lcmp, J_ifeq, J_ifge, T_I, T_goto, T_ft, T_iceq, F_ll4, T_subL, T_ret, LC, L_div, hb0, ne_eq, hr, TK, Option.some.injEq, exists_eq_left', true_and, and_true, if_true, if_false, decide_eq_false_iff_not, decide_eq_true_eq, Nat.reduceAdd, Nat.reduceLeDiff, Nat.reduceLT, Int.reduceAdd, Int.reduceSub, Int.reduceMul, Int.reduceNeg, not_true_eq_false, not_false_eq_true]
  by_cases h1 : a - a.tdiv b * b = 0
  · simp only [h1, if_true]
    rw [fl_d (by omega) k]
  · simp only [h1, if_false]
    by_cases h2 : 0 ≤ a
    · simp only [h2, if_true, show (0 : Int) ≤ b by omega]
      simp only [fl_p h2]
    · simp only [h2, if_false, show (0 : Int) ≤ b by omega, if_true]
      rw [fl_n h2 k (by omega)]
theorem s243 {a b : Int} (h : -1000000000000000000 < a) (h' : a < 1000000000000000000) (k : 0 < b) (k' : b < 1000000000000000000) : Sp E 243 [.long (L a), .long (L b)] hi hr n Q ↔ Q (some (.int (J (rd a b))), hi, hr, n) := by
  simp +decide (maxSteps := 4000000) (disch := omega) only [k243_0, k243_r, k243_s, T_L, F_ll0, T_mulL, F_ll2, T_addL, T_l2i, T_ret, c244, ↓s244, TK, Option.some.injEq, exists_eq_left', true_and, and_true, if_true, if_false, decide_eq_false_iff_not, decide_eq_true_eq, Nat.reduceAdd, Nat.reduceLeDiff, Nat.reduceLT, Int.reduceAdd, Int.reduceSub, Int.reduceMul, Int.reduceNeg, not_true_eq_false, not_false_eq_true]
  exact Iff.rfl
theorem s253 {a b : Int} (h : -2147483648 ≤ a) (h' : a < 2147483648) (k : 0 ≤ b) (k' : b < 2147483648) : Sp E 253 [.int (J a), .int (J b)] hi hr n Q ↔ Q (some (.int (J (kpt a b))), hi, hr, n) := by
  simp +decide (maxSteps := 4000000) (disch := omega) only [k253_0, k253_1, k253_2, k253_3, k253_r, k253_s, F_il0, J_ifge, T_I, T_goto, F_il1, T_icle, T_ft, T_ret, TK, Option.some.injEq, exists_eq_left', true_and, and_true, if_true, if_false, decide_eq_false_iff_not, decide_eq_true_eq, Nat.reduceAdd, Nat.reduceLeDiff, Nat.reduceLT, Int.reduceAdd, Int.reduceSub, Int.reduceMul, Int.reduceNeg, not_true_eq_false, not_false_eq_true]
  unfold kpt
  repeat' split
  all_goals first | exact Iff.rfl | (exfalso; omega)
theorem s252 {s a b c d : Int32} : Sp E 252 [.int s, .int a, .int b, .int c, .int d] hi hr n Q ↔ Q (some (.int (hsh s a b c d)), hi, hr, n) := by
  simp +decide (maxSteps := 4000000) (disch := omega) only [k252_0, k252_2, k252_3, k252_4, k252_5, k252_6, k252_r, k252_s, F_il0, F_is5i, F_is5r, F_is5m, T_I, F_is6i, F_is6r, F_is6m, T_ft, F_il6, T_icge, J_ifne, F_il1, T_goto, J_icne, F_il2, F_il3, F_il4, F_is7i, F_is7r, F_is7m, F_il5, F_il7, T_xor, T_mul, T_ushr, F_inc6i, F_inc6r, F_inc6m, T_ret, TK, Option.some.injEq, exists_eq_left', true_and, and_true, if_true, if_false, decide_eq_false_iff_not, decide_eq_true_eq, Nat.reduceAdd, Nat.reduceLeDiff, Nat.reduceLT, Int.reduceAdd, Int.reduceSub, Int.reduceMul, Int.reduceNeg, not_true_eq_false, not_false_eq_true]
  iterate 5
    rw [k252_1]
    simp +decide (maxSteps := 4000000) (disch := omega) only [k252_0, k252_2, k252_3, k252_4, k252_5, k252_6, k252_r, k252_s, F_il0, F_is5i, F_is5r, F_is5m, T_I, F_is6i, F_is6r, F_is6m, T_ft, F_il6, T_icge, J_ifne, F_il1, T_goto, J_icne, F_il2, F_il3, F_il4, F_is7i, F_is7r, F_is7m, F_il5, F_il7, T_xor, T_mul, T_ushr, F_inc6i, F_inc6r, F_inc6m, T_ret, TK, Option.some.injEq, exists_eq_left', true_and, and_true, if_true, if_false, decide_eq_false_iff_not, decide_eq_true_eq, Nat.reduceAdd, Nat.reduceLeDiff, Nat.reduceLT, Int.reduceAdd, Int.reduceSub, Int.reduceMul, Int.reduceNeg, not_true_eq_false, not_false_eq_true]
  exact Iff.rfl
end LF
