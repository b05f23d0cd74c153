/-! meets -/
def ovB (a b c d : Int) : Bool := decide ((a ≤ c ∨ a ≤ d ∨ b ≤ c ∨ b ≤ d) ∧ (c ≤ a ∨ c ≤ b ∨ d ≤ a ∨ d ≤ b))
def bwB (a b c : Int) : Bool := decide ((a ≤ c ∧ c ≤ b) ∨ (b ≤ c ∧ c ≤ a))
def mtB (ax ay bx bY cx cy dx dy : Int) : Bool := (ovB ax bx cx dx && ovB ay bY cy dy) && (decide (sid ax ay bx bY cx cy * sid ax ay bx bY dx dy ≤ 0) && decide (sid cx cy dx dy ax ay * sid cx cy dx dy bx bY ≤ 0))
def sgn (a : Int) : Int := if 0 < a then 1 else if a < 0 then -1 else 0
theorem ovB_i (a b c d : Int) : ovB a b c d = true ↔ Ovl a b c d := by unfold ovB Ovl; exact decide_eq_true_iff
theorem bwB_i (a b c : Int) : bwB a b c = true ↔ Btw a b c := by unfold bwB Btw; exact decide_eq_true_iff
theorem sgn_r (a : Int) : -1 ≤ sgn a ∧ sgn a ≤ 1 := by
  unfold sgn
  split
  · omega
  · split <;> omega
theorem sgn_0 (a : Int) : (sgn a = 0) ↔ a = 0 := by
  unfold sgn
  split
  · omega
  · split <;> omega
theorem sgn_m (a b : Int) : (sgn a * sgn b < 0) ↔ a * b < 0 := by
  unfold sgn
  by_cases h1 : 0 < a
  · rw [if_pos h1]
    by_cases h2 : 0 < b
    · have := Int.mul_pos h1 h2
      rw [if_pos h2]
      omega
    · rw [if_neg h2]
      by_cases h3 : b < 0
      · have := Int.mul_neg_of_pos_of_neg h1 h3
        rw [if_pos h3]
        omega
      · have e : b = 0 := by omega
        rw [if_neg h3, e, Int.mul_zero]
        omega
  · rw [if_neg h1]
    by_cases h3 : a < 0
    · rw [if_pos h3]
      by_cases h2 : 0 < b
      · have := Int.mul_neg_of_neg_of_pos h3 h2
        rw [if_pos h2]
        omega
      · rw [if_neg h2]
        by_cases h4 : b < 0
        · have := Int.mul_pos_of_neg_of_neg h3 h4
          rw [if_pos h4]
          omega
        · have e : b = 0 := by omega
          rw [if_neg h4, e, Int.mul_zero]
          omega
    · have e : a = 0 := by omega
      rw [if_neg h3, e, Int.zero_mul, Int.zero_mul]
theorem mt_iff (ax ay bx bY cx cy dx dy : Int) : mtB ax ay bx bY cx cy dx dy = ((decide (sid ax ay bx bY cx cy * sid ax ay bx bY dx dy < 0) && decide (sid cx cy dx dy ax ay * sid cx cy dx dy bx bY < 0)) || ((decide (sid ax ay bx bY cx cy = 0) && (bwB ax bx cx && bwB ay bY cy)) || (decide (sid ax ay bx bY dx dy = 0) && (bwB ax bx dx && bwB ay bY dy))) || (decide (sid cx cy dx dy ax ay = 0) && (bwB cx dx ax && bwB cy dy ay)) || (decide (sid cx cy dx dy bx bY = 0) && (bwB cx dx bx && bwB cy dy bY))) := by
  rw [Bool.eq_iff_iff]
  unfold mtB
  simp only [Bool.and_eq_true, Bool.or_eq_true, decide_eq_true_eq, ovB_i, bwB_i]
  constructor
  · rintro ⟨⟨o1, o2⟩, o3, o4⟩
    rcases mt_1 o1 o2 o3 o4 with q | q | q | q | q
    · exact Or.inl (Or.inl (Or.inl q))
    · exact Or.inl (Or.inl (Or.inr (Or.inl q)))
    · exact Or.inl (Or.inl (Or.inr (Or.inr q)))
    · exact Or.inl (Or.inr q)
    · exact Or.inr q
  · intro q
    refine mt_2 ?_
    rcases q with ((q | q | q) | q) | q
    · exact Or.inl q
    · exact Or.inr (Or.inl q)
    · exact Or.inr (Or.inr (Or.inl q))
    · exact Or.inr (Or.inr (Or.inr (Or.inl q)))
    · exact Or.inr (Or.inr (Or.inr (Or.inr q)))
section MT
variable {E : AEn} {h h' : AHi} {hr : AHr} {n : Nat} {Q : ARs → Prop} {s o : Stk}
theorem sid_r {ax ay bx bY cx cy : Int} (h1 : 0 ≤ ax ∧ ax ≤ 47) (h2 : 0 ≤ ay ∧ ay ≤ 31) (h3 : 0 ≤ bx ∧ bx ≤ 47) (h4 : 0 ≤ bY ∧ bY ≤ 31) (h5 : 0 ≤ cx ∧ cx ≤ 47) (h6 : 0 ≤ cy ∧ cy ≤ 31) : -3000 ≤ sid ax ay bx bY cx cy ∧ sid ax ay bx bY cx cy ≤ 3000 := by
  have a1 := mulb (a := bx - ax) (b := cy - ay) (A := 47) (B := 31) (by omega) (by omega)
  have a2 := mulb (a := bY - ay) (b := cx - ax) (A := 31) (B := 47) (by omega) (by omega)
  unfold sid
  omega
theorem s124 (hn : 775 ≤ n) {a b c d : Int} (h1 : 0 ≤ a ∧ a ≤ 47) (h2 : 0 ≤ b ∧ b ≤ 47) (h3 : 0 ≤ c ∧ c ≤ 47) (h4 : 0 ≤ d ∧ d ≤ 47) : Sp E 124 [.int (J a), .int (J b), .int (J c), .int (J d)] h hr n Q ↔ Q (some (.int (Bz (ovB a b c d))), h, hr, n) := by
  have e1 : 0 ≤ (if b < a then b else a) ∧ (if b < a then b else a) ≤ 47 := by split <;> omega
  have e2 : 0 ≤ (if d < c then d else c) ∧ (if d < c then d else c) ≤ 47 := by split <;> omega
  have e3 : 0 ≤ (if a < b then b else a) ∧ (if a < b then b else a) ≤ 47 := by split <;> omega
  have e4 : 0 ≤ (if c < d then d else c) ∧ (if c < d then d else c) ≤ 47 := by split <;> omega
  have e5 : (0 ≤ (if (if b < a then b else a) < (if d < c then d else c) then (if d < c then d else c) else (if b < a then b else a)) ∧ (if (if b < a then b else a) < (if d < c then d else c) then (if d < c then d else c) else (if b < a then b else a)) ≤ 47) ∧ 0 ≤ (if (if c < d then d else c) < (if a < b then b else a) then (if c < d then d else c) else (if a < b then b else a)) ∧ (if (if c < d then d else c) < (if a < b then b else a) then (if c < d then d else c) else (if a < b then b else a)) ≤ 47 := by
    refine ⟨?_, ?_⟩
    · repeat' split
      all_goals omega
    · repeat' split
      all_goals omega
  simp +decide (maxSteps := 4000000) (disch := omega) only [k124_0, k124_1, k124_2, k124_r, k124_s, F_il0, F_il1, F_il2, F_il3, T_icgt, T_I, T_goto, T_ft, T_ret, c347, c349, ↓s347, ↓s349, TK, lt_run hn, le43, Int.le_refl, Int.lt_irrefl, Option.some.injEq, exists_eq_left', true_and, and_true, if_true, if_false, decide_eq_false_iff_not, decide_eq_true_eq, Nat.reduceAdd, Nat.reduceLeDiff, Nat.reduceLT, Int.reduceAdd, Int.reduceSub, Int.reduceMul, Int.reduceNeg, not_true_eq_false, not_false_eq_true]
  have key : ((if (if c < d then d else c) < (if a < b then b else a) then (if c < d then d else c) else (if a < b then b else a)) < (if (if b < a then b else a) < (if d < c then d else c) then (if d < c then d else c) else (if b < a then b else a))) ↔ ovB a b c d = false := by
    unfold ovB
    rw [decide_eq_false_iff_not]
    repeat' split
    all_goals omega
  by_cases g : ovB a b c d = false
  · rw [if_pos (key.mpr g), g]
    exact Iff.rfl
  · have g2 : ovB a b c d = true := by cases hh : ovB a b c d <;> simp_all
    rw [if_neg (fun q => g (key.mp q)), g2]
    exact Iff.rfl
theorem s125 (F : FH hr) (hn : 775 ≤ n) {a b : Nat} (A : SB a) (B : SB b) {i k ax ay bx bY cx cy : Int} (hi : 0 ≤ i ∧ i < 9) (hk : 0 ≤ k ∧ k < 10) (c1 : gA h (a + 1) i = J ax ∧ gA h (a + 2) i = J ay) (c2 : gA h (a + 1) (i + 1) = J bx ∧ gA h (a + 2) (i + 1) = J bY) (c3 : gA h (b + 1) k = J cx ∧ gA h (b + 2) k = J cy) : Sp E 125 [.ref a, .int (J i), .ref b, .int (J k)] h hr n Q ↔ Q (some (.int (J (sid ax ay bx bY cx cy))), h, hr, n) := by
  have x1 := A.x E F
  have x2 := A.r
  have y1 := B.x E F
  have y2 := B.r
  simp +decide (maxSteps := 4000000) (disch := omega) only [k125_0, k125_r, k125_s, F_al0, T_getR, F_il1, T_I, T_add, X_iald, T_sub, F_al2, F_il3, T_mul, T_ret, x1, y1, c1, c2, c3, TK, lt_run hn, le43, Int.le_refl, Int.lt_irrefl, Option.some.injEq, exists_eq_left', true_and, and_true, if_true, if_false, decide_eq_false_iff_not, decide_eq_true_eq, Nat.reduceAdd, Nat.reduceLeDiff, Nat.reduceLT, Int.reduceAdd, Int.reduceSub, Int.reduceMul, Int.reduceNeg, not_true_eq_false, not_false_eq_true]
  exact Iff.rfl
theorem w123 (F : FH hr) (hn : 775 ≤ n) {a b : Nat} (A : SB a) (B : SB b) (R : SR s) (R' : SR o) (C : SC h a s) (C' : SC h b o) {i j : Int} (hi : 0 ≤ i ∧ i < s.2.1 - 1) (hj : 0 ≤ j ∧ j < o.2.1 - 1)
    (k : Q (some (.int (Bz (mtB (s.2.2.1 i) (s.2.2.2 i) (s.2.2.1 (i + 1)) (s.2.2.2 (i + 1)) (o.2.2.1 j) (o.2.2.2 j) (o.2.2.1 (j + 1)) (o.2.2.2 (j + 1))))), h, hr, n)) : Sp E 123 [.ref a, .int (J i), .ref b, .int (J j)] h hr n Q := by
  have x1 := A.x E F
  have x2 := A.r
  have y1 := B.x E F
  have y2 := B.r
  have r2 := R.2.1
  have r3 := R'.2.1
  have c1 := C.2 i hi.1 (by omega)
  have c2 := C.2 (i + 1) (by omega) (by omega)
  have c3 := C'.2 j hj.1 (by omega)
  have c4 := C'.2 (j + 1) (by omega) (by omega)
  have b1 := R.2.2 i
  have b2 := R.2.2 (i + 1)
  have b3 := R'.2.2 j
  have b4 := R'.2.2 (j + 1)
  have t1 := fun {Q} => s125 (E := E) (Q := Q) F hn A B (i := i) (k := j) (by omega) (by omega) c1 c2 c3
  have t2 := fun {Q} => s125 (E := E) (Q := Q) F hn A B (i := i) (k := j + 1) (by omega) (by omega) c1 c2 c4
  have t3 := fun {Q} => s125 (E := E) (Q := Q) F hn B A (i := j) (k := i) (by omega) (by omega) c3 c4 c1
  have t4 := fun {Q} => s125 (E := E) (Q := Q) F hn B A (i := j) (k := i + 1) (by omega) (by omega) c3 c4 c2
  unfold mtB at k
  generalize s.2.2.1 i = ax at *
  generalize s.2.2.2 i = ay at *
  generalize s.2.2.1 (i + 1) = bx at *
  generalize s.2.2.2 (i + 1) = bY at *
  generalize o.2.2.1 j = cx at *
  generalize o.2.2.2 j = cy at *
  generalize o.2.2.1 (j + 1) = dx at *
  generalize o.2.2.2 (j + 1) = dy at *
  have s1 := sid_r b1.1 b1.2 b2.1 b2.2 b3.1 b3.2
  have s2 := sid_r b1.1 b1.2 b2.1 b2.2 b4.1 b4.2
  have s3 := sid_r b3.1 b3.2 b4.1 b4.2 b1.1 b1.2
  have s4 := sid_r b3.1 b3.2 b4.1 b4.2 b2.1 b2.2
  have m1 := mulb s1 s2
  have m2 := mulb s3 s4
  cases hx : ovB ax bx cx dx with
  | false =>
    rw [hx] at k
    simp +decide (maxSteps := 4000000) (disch := omega) only [k123_0, k123_1, k123_2, k123_r, k123_s, F_al0, T_getR, F_il1, X_iald, T_I, T_add, F_al2, F_il3, J_ifeq, T_mul, J_ifgt, T_goto, T_ft, T_ret, c124, c125, ↓s124, x1, y1, c1, c2, c3, c4, hx, Bz_f, TK, lt_run hn, le43, Int.le_refl, Int.lt_irrefl, Option.some.injEq, exists_eq_left', true_and, and_true, if_true, if_false, decide_eq_false_iff_not, decide_eq_true_eq, Nat.reduceAdd, Nat.reduceLeDiff, Nat.reduceLT, Int.reduceAdd, Int.reduceSub, Int.reduceMul, Int.reduceNeg, not_true_eq_false, not_false_eq_true]
    exact k
  | true =>
    cases hy : ovB ay bY cy dy with
    | false =>
      rw [hx, hy] at k
      simp +decide (maxSteps := 4000000) (disch := omega) only [k123_0, k123_1, k123_2, k123_r, k123_s, F_al0, T_getR, F_il1, X_iald, T_I, T_add, F_al2, F_il3, J_ifeq, T_mul, J_ifgt, T_goto, T_ft, T_ret, c124, c125, ↓s124, x1, y1, c1, c2, c3, c4, hx, hy, Bz_f, Bz_t, TK, lt_run hn, le43, Int.le_refl, Int.lt_irrefl, Option.some.injEq, exists_eq_left', true_and, and_true, if_true, if_false, decide_eq_false_iff_not, decide_eq_true_eq, Nat.reduceAdd, Nat.reduceLeDiff, Nat.reduceLT, Int.reduceAdd, Int.reduceSub, Int.reduceMul, Int.reduceNeg, not_true_eq_false, not_false_eq_true]
      exact k
    | true =>
      rw [hx, hy] at k
      by_cases g1 : sid ax ay bx bY cx cy * sid ax ay bx bY dx dy ≤ 0
      · by_cases g2 : sid cx cy dx dy ax ay * sid cx cy dx dy bx bY ≤ 0
        · rw [decide_eq_true g1, decide_eq_true g2] at k
          simp +decide (maxSteps := 4000000) (disch := omega) only [k123_0, k123_1, k123_2, k123_r, k123_s, F_al0, T_getR, F_il1, X_iald, T_I, T_add, F_al2, F_il3, J_ifeq, T_mul, J_ifgt, T_goto, T_ft, T_ret, c124, c125, ↓s124, x1, y1, c1, c2, c3, c4, hx, hy, Bz_t, t1, t2, t3, t4, show ¬ 0 < sid ax ay bx bY cx cy * sid ax ay bx bY dx dy by omega, show ¬ 0 < sid cx cy dx dy ax ay * sid cx cy dx dy bx bY by omega, TK, lt_run hn, le43, Int.le_refl, Int.lt_irrefl, Option.some.injEq, exists_eq_left', true_and, and_true, if_true, if_false, decide_eq_false_iff_not, decide_eq_true_eq, Nat.reduceAdd, Nat.reduceLeDiff, Nat.reduceLT, Int.reduceAdd, Int.reduceSub, Int.reduceMul, Int.reduceNeg, not_true_eq_false, not_false_eq_true]
          exact k
        · rw [decide_eq_true g1, decide_eq_false g2] at k
          simp +decide (maxSteps := 4000000) (disch := omega) only [k123_0, k123_1, k123_2, k123_r, k123_s, F_al0, T_getR, F_il1, X_iald, T_I, T_add, F_al2, F_il3, J_ifeq, T_mul, J_ifgt, T_goto, T_ft, T_ret, c124, c125, ↓s124, x1, y1, c1, c2, c3, c4, hx, hy, Bz_t, t1, t2, t3, t4, show ¬ 0 < sid ax ay bx bY cx cy * sid ax ay bx bY dx dy by omega, show 0 < sid cx cy dx dy ax ay * sid cx cy dx dy bx bY by omega, TK, lt_run hn, le43, Int.le_refl, Int.lt_irrefl, Option.some.injEq, exists_eq_left', true_and, and_true, if_true, if_false, decide_eq_false_iff_not, decide_eq_true_eq, Nat.reduceAdd, Nat.reduceLeDiff, Nat.reduceLT, Int.reduceAdd, Int.reduceSub, Int.reduceMul, Int.reduceNeg, not_true_eq_false, not_false_eq_true]
          exact k
      · rw [decide_eq_false g1] at k
        simp +decide (maxSteps := 4000000) (disch := omega) only [k123_0, k123_1, k123_2, k123_r, k123_s, F_al0, T_getR, F_il1, X_iald, T_I, T_add, F_al2, F_il3, J_ifeq, T_mul, J_ifgt, T_goto, T_ft, T_ret, c124, c125, ↓s124, x1, y1, c1, c2, c3, c4, hx, hy, Bz_t, t1, t2, show 0 < sid ax ay bx bY cx cy * sid ax ay bx bY dx dy by omega, TK, lt_run hn, le43, Int.le_refl, Int.lt_irrefl, Option.some.injEq, exists_eq_left', true_and, and_true, if_true, if_false, decide_eq_false_iff_not, decide_eq_true_eq, Nat.reduceAdd, Nat.reduceLeDiff, Nat.reduceLT, Int.reduceAdd, Int.reduceSub, Int.reduceMul, Int.reduceNeg, not_true_eq_false, not_false_eq_true]
        exact k
theorem s247 (hn : 775 ≤ n) {ax ay bx bY cx cy : Int} (h1 : 0 ≤ ax ∧ ax ≤ 47) (h2 : 0 ≤ ay ∧ ay ≤ 31) (h3 : 0 ≤ bx ∧ bx ≤ 47) (h4 : 0 ≤ bY ∧ bY ≤ 31) (h5 : 0 ≤ cx ∧ cx ≤ 47) (h6 : 0 ≤ cy ∧ cy ≤ 31) : Sp E 247 [.int (J ax), .int (J ay), .int (J bx), .int (J bY), .int (J cx), .int (J cy)] h hr n Q ↔ Q (some (.int (J (sgn (sid ax ay bx bY cx cy)))), h, hr, n) := by
  have sr := sid_r h1 h2 h3 h4 h5 h6
  have es : sid ax ay bx bY cx cy = (bx - ax) * (cy - ay) - (bY - ay) * (cx - ax) := rfl
  rw [es] at sr ⊢
  generalize hz : (bx - ax) * (cy - ay) - (bY - ay) * (cx - ax) = z at *
  unfold sgn
  by_cases g1 : 0 < z
  · simp +decide (maxSteps := 4000000) (disch := omega) only [k247_0, k247_1, k247_2, k247_3, k247_r, k247_s, F_il2, F_il0, T_sub, F_il5, F_il1, T_mul, F_il3, F_il4, F_is6i, F_is6r, F_is6m, F_il6, J_ifle, T_I, T_goto, J_ifge, T_ft, T_ret, hz, show ¬ z ≤ 0 by omega, g1, TK, lt_run hn, le43, Int.le_refl, Int.lt_irrefl, Option.some.injEq, exists_eq_left', true_and, and_true, if_true, if_false, decide_eq_false_iff_not, decide_eq_true_eq, Nat.reduceAdd, Nat.reduceLeDiff, Nat.reduceLT, Int.reduceAdd, Int.reduceSub, Int.reduceMul, Int.reduceNeg, not_true_eq_false, not_false_eq_true]
  · by_cases g2 : z < 0
    · simp +decide (maxSteps := 4000000) (disch := omega) only [k247_0, k247_1, k247_2, k247_3, k247_r, k247_s, F_il2, F_il0, T_sub, F_il5, F_il1, T_mul, F_il3, F_il4, F_is6i, F_is6r, F_is6m, F_il6, J_ifle, T_I, T_goto, J_ifge, T_ft, T_ret, hz, g1, g2, show z ≤ 0 by omega, show ¬ 0 ≤ z by omega, TK, lt_run hn, le43, Int.le_refl, Int.lt_irrefl, Option.some.injEq, exists_eq_left', true_and, and_true, if_true, if_false, decide_eq_false_iff_not, decide_eq_true_eq, Nat.reduceAdd, Nat.reduceLeDiff, Nat.reduceLT, Int.reduceAdd, Int.reduceSub, Int.reduceMul, Int.reduceNeg, not_true_eq_false, not_false_eq_true]
    · simp +decide (maxSteps := 4000000) (disch := omega) only [k247_0, k247_1, k247_2, k247_3, k247_r, k247_s, F_il2, F_il0, T_sub, F_il5, F_il1, T_mul, F_il3, F_il4, F_is6i, F_is6r, F_is6m, F_il6, J_ifle, T_I, T_goto, J_ifge, T_ft, T_ret, hz, g1, g2, show z ≤ 0 by omega, show 0 ≤ z by omega, TK, lt_run hn, le43, Int.le_refl, Int.lt_irrefl, Option.some.injEq, exists_eq_left', true_and, and_true, if_true, if_false, decide_eq_false_iff_not, decide_eq_true_eq, Nat.reduceAdd, Nat.reduceLeDiff, Nat.reduceLT, Int.reduceAdd, Int.reduceSub, Int.reduceMul, Int.reduceNeg, not_true_eq_false, not_false_eq_true]
theorem s248 (hn : 775 ≤ n) {ax ay bx bY cx cy : Int} (h1 : 0 ≤ ax ∧ ax ≤ 47) (h2 : 0 ≤ ay ∧ ay ≤ 31) (h3 : 0 ≤ bx ∧ bx ≤ 47) (h4 : 0 ≤ bY ∧ bY ≤ 31) (h5 : 0 ≤ cx ∧ cx ≤ 47) (h6 : 0 ≤ cy ∧ cy ≤ 31) : Sp E 248 [.int (J ax), .int (J ay), .int (J bx), .int (J bY), .int (J cx), .int (J cy)] h hr n Q ↔ Q (some (.int (Bz (bwB ax bx cx && bwB ay bY cy))), h, hr, n) := by
  have e1 : 0 ≤ (if ax ≤ bx then bx else ax) ∧ (if ax ≤ bx then bx else ax) ≤ 47 := by split <;> omega
  have e2 : 0 ≤ (if ay ≤ bY then bY else ay) ∧ (if ay ≤ bY then bY else ay) ≤ 47 := by split <;> omega
  have fy : Tm E 248 (a_bl 248 5) [.int (J ax), .int (J ay), .int (J bx), .int (J bY), .int (J cx), .int (J cy)] [] h hr n Q ↔ Q (some (.int (Bz false)), h, hr, n) := by
    rw [k248_5]
    simp +decide (maxSteps := 4000000) (disch := omega) only [k248_0, k248_1, k248_2, k248_3, k248_4, k248_5, k248_6, k248_r, k248_s, F_il4, F_il0, F_il2, T_icge, T_goto, T_ft, T_iclt, T_icgt, F_il5, F_il1, F_il3, T_I, T_ret, c241, ↓s241, TK, lt_run hn, le43, Int.le_refl, Int.lt_irrefl, Option.some.injEq, exists_eq_left', true_and, and_true, if_true, if_false, decide_eq_false_iff_not, decide_eq_true_eq, Nat.reduceAdd, Nat.reduceLeDiff, Nat.reduceLT, Int.reduceAdd, Int.reduceSub, Int.reduceMul, Int.reduceNeg, not_true_eq_false, not_false_eq_true]
    exact Iff.rfl
  have q2 : ∀ m, m = (if ay < bY then ay else bY) → (Tm E 248 (a_bl 248 4) [.int (J ax), .int (J ay), .int (J bx), .int (J bY), .int (J cx), .int (J cy)] [.int (J m), .int (J cy)] h hr n Q ↔ Q (some (.int (Bz (bwB ay bY cy))), h, hr, n)) := fun m hm => by
    have hm2 : 0 ≤ m ∧ m ≤ 31 := by rw [hm]; split <;> omega
    rw [k248_4]
    by_cases g1 : cy < m
    · have e : bwB ay bY cy = false := by
        unfold bwB
        refine decide_eq_false ?_
        rw [hm] at g1
        split at g1 <;> omega
      simp +decide (maxSteps := 4000000) (disch := omega) only [k248_0, k248_1, k248_2, k248_3, k248_4, k248_6, k248_r, k248_s, F_il4, F_il0, F_il2, T_icge, T_goto, T_ft, T_iclt, T_icgt, F_il5, F_il1, F_il3, T_I, T_ret, c241, ↓s241, g1, TK, lt_run hn, le43, Int.le_refl, Int.lt_irrefl, Option.some.injEq, exists_eq_left', true_and, and_true, if_true, if_false, decide_eq_false_iff_not, decide_eq_true_eq, Nat.reduceAdd, Nat.reduceLeDiff, Nat.reduceLT, Int.reduceAdd, Int.reduceSub, Int.reduceMul, Int.reduceNeg, not_true_eq_false, not_false_eq_true]
      rw [fy, e]
    · by_cases g2 : (if ay ≤ bY then bY else ay) < cy
      · have e : bwB ay bY cy = false := by
          unfold bwB
          refine decide_eq_false ?_
          split at g2 <;> omega
        simp +decide (maxSteps := 4000000) (disch := omega) only [k248_0, k248_1, k248_2, k248_3, k248_4, k248_6, k248_r, k248_s, F_il4, F_il0, F_il2, T_icge, T_goto, T_ft, T_iclt, T_icgt, F_il5, F_il1, F_il3, T_I, T_ret, c241, ↓s241, g1, g2, TK, lt_run hn, le43, Int.le_refl, Int.lt_irrefl, Option.some.injEq, exists_eq_left', true_and, and_true, if_true, if_false, decide_eq_false_iff_not, decide_eq_true_eq, Nat.reduceAdd, Nat.reduceLeDiff, Nat.reduceLT, Int.reduceAdd, Int.reduceSub, Int.reduceMul, Int.reduceNeg, not_true_eq_false, not_false_eq_true]
        rw [fy, e]
      · have e : bwB ay bY cy = true := by
          unfold bwB
          refine decide_eq_true ?_
          rw [hm] at g1
          split at g1 <;> split at g2 <;> omega
        simp +decide (maxSteps := 4000000) (disch := omega) only [k248_0, k248_1, k248_2, k248_3, k248_4, k248_6, k248_r, k248_s, F_il4, F_il0, F_il2, T_icge, T_goto, T_ft, T_iclt, T_icgt, F_il5, F_il1, F_il3, T_I, T_ret, c241, ↓s241, g1, g2, TK, lt_run hn, le43, Int.le_refl, Int.lt_irrefl, Option.some.injEq, exists_eq_left', true_and, and_true, if_true, if_false, decide_eq_false_iff_not, decide_eq_true_eq, Nat.reduceAdd, Nat.reduceLeDiff, Nat.reduceLT, Int.reduceAdd, Int.reduceSub, Int.reduceMul, Int.reduceNeg, not_true_eq_false, not_false_eq_true]
        rw [e]
        exact Iff.rfl
  have q1 : ∀ m, m = (if ax < bx then ax else bx) → (Tm E 248 (a_bl 248 2) [.int (J ax), .int (J ay), .int (J bx), .int (J bY), .int (J cx), .int (J cy)] [.int (J m), .int (J cx)] h hr n Q ↔ Q (some (.int (Bz (bwB ax bx cx && bwB ay bY cy))), h, hr, n)) := fun m hm => by
    have hm2 : 0 ≤ m ∧ m ≤ 47 := by rw [hm]; split <;> omega
    rw [k248_2]
    by_cases g1 : cx < m
    · have e : bwB ax bx cx = false := by
        unfold bwB
        refine decide_eq_false ?_
        rw [hm] at g1
        split at g1 <;> omega
      simp +decide (maxSteps := 4000000) (disch := omega) only [k248_0, k248_1, k248_2, k248_3, k248_6, k248_r, k248_s, F_il4, F_il0, F_il2, T_icge, T_goto, T_ft, T_iclt, T_icgt, F_il5, F_il1, F_il3, T_I, T_ret, c241, ↓s241, g1, TK, lt_run hn, le43, Int.le_refl, Int.lt_irrefl, Option.some.injEq, exists_eq_left', true_and, and_true, if_true, if_false, decide_eq_false_iff_not, decide_eq_true_eq, Nat.reduceAdd, Nat.reduceLeDiff, Nat.reduceLT, Int.reduceAdd, Int.reduceSub, Int.reduceMul, Int.reduceNeg, not_true_eq_false, not_false_eq_true]
      rw [fy, e]
      exact Iff.rfl
    · by_cases g2 : (if ax ≤ bx then bx else ax) < cx
      · have e : bwB ax bx cx = false := by
          unfold bwB
          refine decide_eq_false ?_
          split at g2 <;> omega
        simp +decide (maxSteps := 4000000) (disch := omega) only [k248_0, k248_1, k248_2, k248_3, k248_6, k248_r, k248_s, F_il4, F_il0, F_il2, T_icge, T_goto, T_ft, T_iclt, T_icgt, F_il5, F_il1, F_il3, T_I, T_ret, c241, ↓s241, g1, g2, TK, lt_run hn, le43, Int.le_refl, Int.lt_irrefl, Option.some.injEq, exists_eq_left', true_and, and_true, if_true, if_false, decide_eq_false_iff_not, decide_eq_true_eq, Nat.reduceAdd, Nat.reduceLeDiff, Nat.reduceLT, Int.reduceAdd, Int.reduceSub, Int.reduceMul, Int.reduceNeg, not_true_eq_false, not_false_eq_true]
        rw [fy, e]
        exact Iff.rfl
      · have e : bwB ax bx cx = true := by
          unfold bwB
          refine decide_eq_true ?_
          rw [hm] at g1
          split at g1 <;> split at g2 <;> omega
        rw [e, Bool.true_and]
        by_cases g3 : ay < bY
        · simp +decide (maxSteps := 4000000) (disch := omega) only [k248_0, k248_1, k248_2, k248_3, k248_6, k248_r, k248_s, F_il4, F_il0, F_il2, T_icge, T_goto, T_ft, T_iclt, T_icgt, F_il5, F_il1, F_il3, T_I, T_ret, c241, ↓s241, g1, g2, show ¬ bY ≤ ay by omega, TK, lt_run hn, le43, Int.le_refl, Int.lt_irrefl, Option.some.injEq, exists_eq_left', true_and, and_true, if_true, if_false, decide_eq_false_iff_not, decide_eq_true_eq, Nat.reduceAdd, Nat.reduceLeDiff, Nat.reduceLT, Int.reduceAdd, Int.reduceSub, Int.reduceMul, Int.reduceNeg, not_true_eq_false, not_false_eq_true]
          exact q2 ay (by rw [if_pos g3])
        · simp +decide (maxSteps := 4000000) (disch := omega) only [k248_0, k248_1, k248_2, k248_3, k248_6, k248_r, k248_s, F_il4, F_il0, F_il2, T_icge, T_goto, T_ft, T_iclt, T_icgt, F_il5, F_il1, F_il3, T_I, T_ret, c241, ↓s241, g1, g2, show bY ≤ ay by omega, TK, lt_run hn, le43, Int.le_refl, Int.lt_irrefl, Option.some.injEq, exists_eq_left', true_and, and_true, if_true, if_false, decide_eq_false_iff_not, decide_eq_true_eq, Nat.reduceAdd, Nat.reduceLeDiff, Nat.reduceLT, Int.reduceAdd, Int.reduceSub, Int.reduceMul, Int.reduceNeg, not_true_eq_false, not_false_eq_true]
          exact q2 bY (by rw [if_neg g3])
  by_cases g3 : ax < bx
  · simp +decide (maxSteps := 4000000) (disch := omega) only [k248_0, k248_1, k248_3, k248_6, k248_r, k248_s, F_il4, F_il0, F_il2, T_icge, T_goto, T_ft, T_iclt, T_icgt, F_il5, F_il1, F_il3, T_I, T_ret, c241, ↓s241, show ¬ bx ≤ ax by omega, TK, lt_run hn, le43, Int.le_refl, Int.lt_irrefl, Option.some.injEq, exists_eq_left', true_and, and_true, if_true, if_false, decide_eq_false_iff_not, decide_eq_true_eq, Nat.reduceAdd, Nat.reduceLeDiff, Nat.reduceLT, Int.reduceAdd, Int.reduceSub, Int.reduceMul, Int.reduceNeg, not_true_eq_false, not_false_eq_true]
    exact q1 ax (by rw [if_pos g3])
  · simp +decide (maxSteps := 4000000) (disch := omega) only [k248_0, k248_1, k248_3, k248_6, k248_r, k248_s, F_il4, F_il0, F_il2, T_icge, T_goto, T_ft, T_iclt, T_icgt, F_il5, F_il1, F_il3, T_I, T_ret, c241, ↓s241, show bx ≤ ax by omega, TK, lt_run hn, le43, Int.le_refl, Int.lt_irrefl, Option.some.injEq, exists_eq_left', true_and, and_true, if_true, if_false, decide_eq_false_iff_not, decide_eq_true_eq, Nat.reduceAdd, Nat.reduceLeDiff, Nat.reduceLT, Int.reduceAdd, Int.reduceSub, Int.reduceMul, Int.reduceNeg, not_true_eq_false, not_false_eq_true]
    exact q1 bx (by rw [if_neg g3])
end MT
