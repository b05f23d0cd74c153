/-! match: the class's way -/
theorem sh_t : ∀ j : Nat, j < 9 → J 1 <<< (J (j : Int) &&& 31) = J ((2 ^ j : Nat) : Int) := by decide +kernel
theorem mbt {S j : Int} (hS : 0 ≤ S ∧ S < 256) (hj : 0 ≤ j ∧ j < 8) : (J S >>> (J j &&& 31)) &&& J 1 = J (if maB S j = true then 1 else 0) := by
  have := bit_t S.toNat (by omega) j.toNat (by omega)
  rw [Int.toNat_of_nonneg hS.1, Int.toNat_of_nonneg hj.1] at this
  rw [this]
  unfold maB
  split <;> rfl
theorem mor {S j : Int} (hS : 0 ≤ S ∧ S < 256) (hj : 0 ≤ j ∧ j < 8) : J S ||| (J 1 <<< (J j &&& 31)) = J (maA S j) := by
  have := (bor_t S.toNat (by omega) j.toNat (by omega)).1
  rw [Int.toNat_of_nonneg hS.1, Int.toNat_of_nonneg hj.1] at this
  exact this
theorem msh {b : Int} (hb : 0 ≤ b ∧ b ≤ 8) : J 1 <<< (J b &&& 31) = J (maW b) := by
  have := sh_t b.toNat (by omega)
  rw [Int.toNat_of_nonneg hb.1] at this
  exact this
def dsq (s o : Stk) (i j : Int) : Int := (s.2.2.1 i - o.2.2.1 j) * (s.2.2.1 i - o.2.2.1 j) + (s.2.2.2 i - o.2.2.2 j) * (s.2.2.2 i - o.2.2.2 j)
def csq (s o : Stk) : Int := if s.1 = o.1 then dsq s o 0 0 + dsq s o (s.2.1 - 1) (o.2.1 - 1) else dsq s o 0 0 + dsq s o (s.2.1 - 1) (o.2.1 - 1) + 100
theorem sq_n (a : Int) : 0 ≤ a * a := by
  by_cases g : 0 ≤ a
  · exact Int.mul_nonneg g g
  · have := Int.mul_nonneg (show 0 ≤ -a by omega) (show 0 ≤ -a by omega)
    rw [Int.neg_mul_neg] at this
    exact this
theorem dsq_r {s o : Stk} (R : SR s) (R' : SR o) (i j : Int) : 0 ≤ dsq s o i j ∧ dsq s o i j ≤ 3170 := by
  have r1 := R.2.2 i
  have r2 := R'.2.2 j
  have m1 := mulb (a := s.2.2.1 i - o.2.2.1 j) (b := s.2.2.1 i - o.2.2.1 j) (A := 47) (B := 47) (by omega) (by omega)
  have m2 := mulb (a := s.2.2.2 i - o.2.2.2 j) (b := s.2.2.2 i - o.2.2.2 j) (A := 31) (B := 31) (by omega) (by omega)
  have m3 := sq_n (s.2.2.1 i - o.2.2.1 j)
  have m4 := sq_n (s.2.2.2 i - o.2.2.2 j)
  unfold dsq
  omega
theorem csq_r {s o : Stk} (R : SR s) (R' : SR o) : 0 ≤ csq s o ∧ csq s o ≤ 7000 := by
  have := dsq_r R R' 0 0
  have := dsq_r R R' (s.2.1 - 1) (o.2.1 - 1)
  unfold csq
  split <;> omega
section MB
variable {E : AEn} {h h' : AHi} {hr : AHr} {n : Nat} {Q : ARs → Prop} {s o : Stk} {c : Int → Int → Int} {a b m : Int} {f g : Int → Int}
theorem s128 (F : FH hr) (hn : 775 ≤ n) {p q : Nat} (A : SB p) (B : SB q) (C : SC h p s) (C' : SC h q o) {i j : Int} (R : SR s) (R' : SR o) (hi : 0 ≤ i ∧ i < s.2.1) (hj : 0 ≤ j ∧ j < o.2.1) : Sp E 128 [.ref p, .int (J i), .ref q, .int (J j)] h hr n Q ↔ Q (some (.int (J (dsq s o i j))), h, hr, n) := by
  have x1 := A.x E F
  have x2 := A.r
  have y1 := B.x E F
  have y2 := B.r
  have r2 := R.2.1
  have r3 := R'.2.1
  have d1 := C.2 i hi.1 hi.2
  have d2 := C'.2 j hj.1 hj.2
  simp +decide (maxSteps := 4000000) (disch := omega) only [k128_0, k128_1, k128_2, k128_r, k128_s, F_il1, J_iflt, F_il3, J_ifge, T_ft, T_I, T_ret, F_al0, T_getR, X_iald, F_al2, T_sub, F_is4i, F_is4r, F_is4m, F_is5i, F_is5r, F_is5m, F_il4, T_mul, F_il5, T_add, x1, y1, d1, d2, show ¬ i < 0 by omega, show ¬ j < 0 by omega, hi.1, hj.1, ↓reduceIte, TK, lt_run hn, le43, Int.le_refl, Int.lt_irrefl, Option.some.injEq, exists_eq_left', true_and, and_true, if_true, if_false, decide_eq_false_iff_not, decide_eq_true_eq, Nat.reduceAdd, Nat.reduceLeDiff, Nat.reduceLT, Int.reduceAdd, Int.reduceSub, Int.reduceMul, Int.reduceNeg, not_true_eq_false, not_false_eq_true]
  exact Iff.rfl
theorem s127 (F : FH hr) (hn : 775 ≤ n) {p q : Nat} (A : SB p) (B : SB q) (C : SC h p s) (C' : SC h q o) (R : SR s) (R' : SR o) : Sp E 127 [.ref p, .ref q] h hr n Q ↔ Q (some (.int (J (csq s o))), h, hr, n) := by
  have x1 := A.x E F
  have x2 := A.r
  have y1 := B.x E F
  have y2 := B.r
  have r2 := R.2.1
  have r3 := R'.2.1
  have r4 := R.1
  have r5 := R'.1
  have d1 := C.1
  have d2 := C'.1
  have t1 := fun {Q} => s128 (E := E) (Q := Q) F hn A B C C' R R' (i := 0) (j := 0) (by omega) (by omega)
  have t2 := fun {Q} => s128 (E := E) (Q := Q) F hn A B C C' R R' (i := s.2.1 - 1) (j := o.2.1 - 1) (by omega) (by omega)
  unfold csq
  by_cases g1 : s.1 = o.1
  · simp +decide (maxSteps := 4000000) (disch := omega) only [k127_0, k127_1, k127_2, k127_r, k127_s, F_al0, T_I, F_al1, T_getI, T_sub, T_add, F_is2i, F_is2r, F_is2m, J_icne, F_il2, T_goto, T_ft, T_ret, c128, x1, y1, d1, d2, t1, t2, g1, ↓reduceIte, TK, lt_run hn, le43, Int.le_refl, Int.lt_irrefl, Option.some.injEq, exists_eq_left', true_and, and_true, if_true, if_false, decide_eq_false_iff_not, decide_eq_true_eq, Nat.reduceAdd, Nat.reduceLeDiff, Nat.reduceLT, Int.reduceAdd, Int.reduceSub, Int.reduceMul, Int.reduceNeg, not_true_eq_false, not_false_eq_true]
  · simp +decide (maxSteps := 4000000) (disch := omega) only [k127_0, k127_1, k127_2, k127_r, k127_s, F_al0, T_I, F_al1, T_getI, T_sub, T_add, F_is2i, F_is2r, F_is2m, J_icne, F_il2, T_goto, T_ft, T_ret, c128, x1, y1, d1, d2, t1, t2, g1, ↓reduceIte, TK, lt_run hn, le43, Int.le_refl, Int.lt_irrefl, Option.some.injEq, exists_eq_left', true_and, and_true, if_true, if_false, decide_eq_false_iff_not, decide_eq_true_eq, Nat.reduceAdd, Nat.reduceLeDiff, Nat.reduceLT, Int.reduceAdd, Int.reduceSub, Int.reduceMul, Int.reduceNeg, not_true_eq_false, not_false_eq_true]
/-- the costs in their row -/
def maCs (b : Int) (C : Int → Int → Int) (a : Int) (h : AHi) : Prop := ∀ i j, 0 ≤ i → i < a → (0 ≤ j ∧ j < b) ∨ j = 8 → gA h 94 (i * 9 + j) = J (C i j)
theorem w83 (F : FH hr) (hn : 775 ≤ n) {x y : Int} (hx : 0 ≤ x ∧ x ≤ 7) (hy : 0 ≤ y ∧ y ≤ 7)
    (k : ∀ h', Ef (fun a _ => a = 94) h h' → (∀ i j, 0 ≤ i → i < 8 → 0 ≤ j → j < 9 → gA h' 94 (i * 9 + j) = if i = x ∧ j ≠ y then J 1000000 else gA h 94 (i * 9 + j)) → Q (none, h', hr, n)) : Sp E 83 [.ref 91, .int (J x), .int (J y)] h hr n Q := by
  simp +decide (maxSteps := 4000000) (disch := omega) only [k83_0, k83_2, k83_3, k83_r, k83_s, T_I, F_is3i, F_is3r, F_is3m, T_ft, F_il3, T_icgt, F_il2, T_iceq, F_al0, T_getR, F_il1, T_iast, F_inc3i, F_inc3r, F_inc3m, T_goto, T_ret, c82, ↓s82, ↓reduceIte, TK, lt_run hn, le43, Int.le_refl, Int.lt_irrefl, Option.some.injEq, exists_eq_left', true_and, and_true, if_true, if_false, decide_eq_false_iff_not, decide_eq_true_eq, Nat.reduceAdd, Nat.reduceLeDiff, Nat.reduceLT, Int.reduceAdd, Int.reduceSub, Int.reduceMul, Int.reduceNeg, not_true_eq_false, not_false_eq_true]
  refine T_for (σ := Unit) (fun i _ => [.ref 91, .int (J x), .int (J y), .int (J i)]) (fun q _ h' => Ef (fun a _ => a = 94) h h' ∧ ∀ i j, 0 ≤ i → i < 8 → 0 ≤ j → j < 9 → gA h' 94 (i * 9 + j) = if i = x ∧ j ≠ y ∧ j < q then J 1000000 else gA h 94 (i * 9 + j)) 0 9 ?_ ?_ 0 () h (by omega) (by omega) ⟨Ef.refl, fun i j _ _ _ _ => by rw [if_neg (by omega)]⟩
  · rintro q _ h' q0 q1 ⟨e1, e2⟩ ih
    by_cases g1 : q = y
    · subst g1
      rw [k83_1]
      simp +decide (maxSteps := 4000000) (disch := omega) only [k83_0, k83_2, k83_3, k83_r, k83_s, T_I, F_is3i, F_is3r, F_is3m, T_ft, F_il3, T_icgt, F_il2, T_iceq, F_al0, T_getR, F_il1, T_iast, F_inc3i, F_inc3r, F_inc3m, T_goto, T_ret, c82, ↓s82, FX F, show ¬ 8 < q by omega, ↓reduceIte, TK, lt_run hn, le43, Int.le_refl, Int.lt_irrefl, Option.some.injEq, exists_eq_left', true_and, and_true, if_true, if_false, decide_eq_false_iff_not, decide_eq_true_eq, Nat.reduceAdd, Nat.reduceLeDiff, Nat.reduceLT, Int.reduceAdd, Int.reduceSub, Int.reduceMul, Int.reduceNeg, not_true_eq_false, not_false_eq_true]
      refine ih () _ ⟨e1, fun i j i0 i1 j0 j1 => ?_⟩
      rw [e2 i j i0 i1 j0 j1]
      by_cases z : i = x ∧ j ≠ q ∧ j < q
      · rw [if_pos z, if_pos (by omega)]
      · rw [if_neg z, if_neg (by omega)]
    · rw [k83_1]
      simp +decide (maxSteps := 4000000) (disch := omega) only [k83_0, k83_2, k83_3, k83_r, k83_s, T_I, F_is3i, F_is3r, F_is3m, T_ft, F_il3, T_icgt, F_il2, T_iceq, F_al0, T_getR, F_il1, T_iast, F_inc3i, F_inc3r, F_inc3m, T_goto, T_ret, c82, ↓s82, FX F, g1, ln_94, show ¬ 8 < q by omega, ↓reduceIte, TK, lt_run hn, le43, Int.le_refl, Int.lt_irrefl, Option.some.injEq, exists_eq_left', true_and, and_true, if_true, if_false, decide_eq_false_iff_not, decide_eq_true_eq, Nat.reduceAdd, Nat.reduceLeDiff, Nat.reduceLT, Int.reduceAdd, Int.reduceSub, Int.reduceMul, Int.reduceNeg, not_true_eq_false, not_false_eq_true]
      refine ih () _ ⟨Ef.sA e1 rfl, fun i j i0 i1 j0 j1 => ?_⟩
      by_cases z : i * 9 + j = x * 9 + q
      · rw [z, gs_s, if_pos (by omega)]
      · rw [gs_k (by omega) (by omega) z, e2 i j i0 i1 j0 j1]
        by_cases z : i = x ∧ j ≠ y ∧ j < q
        · rw [if_pos z, if_pos (by omega)]
        · rw [if_neg z, if_neg (by omega)]
  · rintro _ h' ⟨e1, e2⟩
    rw [k83_1]
    simp +decide (maxSteps := 4000000) (disch := omega) only [k83_0, k83_2, k83_3, k83_r, k83_s, T_I, F_is3i, F_is3r, F_is3m, T_ft, F_il3, T_icgt, F_il2, T_iceq, F_al0, T_getR, F_il1, T_iast, F_inc3i, F_inc3r, F_inc3m, T_goto, T_ret, c82, ↓s82, FX F, ↓reduceIte, TK, lt_run hn, le43, Int.le_refl, Int.lt_irrefl, Option.some.injEq, exists_eq_left', true_and, and_true, if_true, if_false, decide_eq_false_iff_not, decide_eq_true_eq, Nat.reduceAdd, Nat.reduceLeDiff, Nat.reduceLT, Int.reduceAdd, Int.reduceSub, Int.reduceMul, Int.reduceNeg, not_true_eq_false, not_false_eq_true]
    refine k h' e1 (fun i j i0 i1 j0 j1 => ?_)
    rw [e2 i j i0 i1 j0 j1]
    by_cases z : i = x ∧ j ≠ y
    · rw [if_pos z, if_pos (by omega)]
    · rw [if_neg z, if_neg (by omega)]
theorem s85 (F : FH hr) (hn : 775 ≤ n) {C : Int → Int → Int} {t : Int → Int} {i j S : Int} (hi : 0 ≤ i ∧ i < 8) (hj : 0 ≤ j ∧ j ≤ 8) (hS : 0 ≤ S ∧ S < 256) (d1 : gA h 94 (i * 9 + j) = J (C i j)) (d2 : gA h 95 ((i + 1) * 256 + (if j = 8 then S else maA S j)) = J (t (if j = 8 then S else maA S j))) : Sp E 85 [.ref 91, .int (J i), .int (J j), .int (J S)] h hr n Q ↔ Q (some (.int (J (maV C t i S j))), h, hr, n) := by
  unfold maV
  by_cases g1 : j = 8
  · subst g1
    rw [if_pos rfl] at d2
    simp +decide (maxSteps := 4000000) (disch := omega) only [k85_0, k85_1, k85_2, k85_r, k85_s, F_il2, T_I, T_icge, F_il3, T_shl, T_or, T_goto, T_ft, F_is4i, F_is4r, F_is4m, F_al0, T_getR, F_il1, X_iald, T_add, T_mul, F_il4, T_ret, c82, ↓s82, FX F, d1, d2, ln_94, ln_95, ↓reduceIte, TK, lt_run hn, le43, Int.le_refl, Int.lt_irrefl, Option.some.injEq, exists_eq_left', true_and, and_true, if_true, if_false, decide_eq_false_iff_not, decide_eq_true_eq, Nat.reduceAdd, Nat.reduceLeDiff, Nat.reduceLT, Int.reduceAdd, Int.reduceSub, Int.reduceMul, Int.reduceNeg, not_true_eq_false, not_false_eq_true]
  · rw [if_neg g1] at d2 ⊢
    have o1 := mor hS (j := j) (by omega)
    have o2 := maA_8 hS (j := j) (by omega)
    simp +decide (maxSteps := 4000000) (disch := omega) only [k85_0, k85_1, k85_2, k85_r, k85_s, F_il2, T_I, T_icge, F_il3, T_shl, T_or, T_goto, T_ft, F_is4i, F_is4r, F_is4m, F_al0, T_getR, F_il1, X_iald, T_add, T_mul, F_il4, T_ret, c82, ↓s82, FX F, d1, d2, o1, ln_94, ln_95, show j < 8 by omega, show ¬ 8 ≤ j by omega, g1, ↓reduceIte, TK, lt_run hn, le43, Int.le_refl, Int.lt_irrefl, Option.some.injEq, exists_eq_left', true_and, and_true, if_true, if_false, decide_eq_false_iff_not, decide_eq_true_eq, Nat.reduceAdd, Nat.reduceLeDiff, Nat.reduceLT, Int.reduceAdd, Int.reduceSub, Int.reduceMul, Int.reduceNeg, not_true_eq_false, not_false_eq_true]
end MB
