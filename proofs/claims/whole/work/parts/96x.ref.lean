/-! pictures: blend and blur of the reference -/
/-- a picture of the reference -/
def SPc (h : AHi) (k : Int) (f : Pic) : Prop := ∀ q, 0 ≤ q → q < 1536 → gA h 767 (1536 * k + q) = J (f q)
section RF
variable {E : AEn} {h h' : AHi} {hr : AHr} {n : Nat} {Q : ARs → Prop} {A : Pic}
theorem s328 (hn : 775 ≤ n) {x y s m : Int} (hx : 0 ≤ x ∧ x ≤ 16777215) (hy : 0 ≤ y ∧ y ≤ 16777215) (hs : 0 ≤ s ∧ s ≤ m) (hm : 1 ≤ m ∧ m ≤ 119) : Sp E 328 [.int (J x), .int (J y), .int (J s), .int (J m)] h hr n Q ↔ Q (some (.int (J (bl3 x y s m))), h, hr, n) := by
  have r1 := bl1_r (a := x / 65536 % 256) (b := y / 65536 % 256) (by omega) (by omega) hs hm
  have r2 := bl1_r (a := x / 256 % 256) (b := y / 256 % 256) (by omega) (by omega) hs hm
  have r3 := bl1_r (a := x % 256) (b := y % 256) (by omega) (by omega) hs hm
  unfold bl3 pk3
  unfold bl1 at r1 r2 r3 ⊢
  have e2 : ∀ r g b : Int, (r * 256 + g) * 256 + b = r * 65536 + g * 256 + b := fun r g b => by omega
  simp +decide (maxSteps := 4000000) (disch := omega) only [k328_0, k328_2, k328_r, k328_s, T_I, F_is4i, F_is4r, F_is4m, F_is5i, F_is5r, F_is5m, T_ft, F_il5, J_iflt, F_il4, T_shl, F_il0, T_shr, T_and, T_i2l, F_il3, F_il2, T_sub, T_mulL, F_il1, T_addL, T_or, F_inc5i, F_inc5r, F_inc5m, T_goto, T_ret, c243, ↓s243, ↓reduceIte, TK, lt_run hn, le43, Int.le_refl, Int.lt_irrefl, Option.some.injEq, exists_eq_left', true_and, and_true, if_true, if_false, decide_eq_false_iff_not, decide_eq_true_eq, Nat.reduceAdd, Nat.reduceLeDiff, Nat.reduceLT, Int.reduceAdd, Int.reduceSub, Int.reduceMul, Int.reduceNeg, not_true_eq_false, not_false_eq_true]
  rw [k328_1]
  simp +decide (maxSteps := 4000000) (disch := omega) only [k328_0, k328_2, k328_r, k328_s, T_I, F_is4i, F_is4r, F_is4m, F_is5i, F_is5r, F_is5m, T_ft, F_il5, J_iflt, F_il4, T_shl, F_il0, T_shr, T_and, T_i2l, F_il3, F_il2, T_sub, T_mulL, F_il1, T_addL, T_or, F_inc5i, F_inc5r, F_inc5m, T_goto, T_ret, c243, ↓s243, sr16, sr8, sr0, an255, sl_0, sl8, or_0, or8, J_l, L_mul, L_add, ↓reduceIte, TK, lt_run hn, le43, Int.le_refl, Int.lt_irrefl, Option.some.injEq, exists_eq_left', true_and, and_true, if_true, if_false, decide_eq_false_iff_not, decide_eq_true_eq, Nat.reduceAdd, Nat.reduceLeDiff, Nat.reduceLT, Int.reduceAdd, Int.reduceSub, Int.reduceMul, Int.reduceNeg, not_true_eq_false, not_false_eq_true]
  rw [k328_1]
  simp +decide (maxSteps := 4000000) (disch := omega) only [k328_0, k328_2, k328_r, k328_s, T_I, F_is4i, F_is4r, F_is4m, F_is5i, F_is5r, F_is5m, T_ft, F_il5, J_iflt, F_il4, T_shl, F_il0, T_shr, T_and, T_i2l, F_il3, F_il2, T_sub, T_mulL, F_il1, T_addL, T_or, F_inc5i, F_inc5r, F_inc5m, T_goto, T_ret, c243, ↓s243, sr16, sr8, sr0, an255, sl_0, sl8, or_0, or8, J_l, L_mul, L_add, ↓reduceIte, TK, lt_run hn, le43, Int.le_refl, Int.lt_irrefl, Option.some.injEq, exists_eq_left', true_and, and_true, if_true, if_false, decide_eq_false_iff_not, decide_eq_true_eq, Nat.reduceAdd, Nat.reduceLeDiff, Nat.reduceLT, Int.reduceAdd, Int.reduceSub, Int.reduceMul, Int.reduceNeg, not_true_eq_false, not_false_eq_true]
  rw [k328_1]
  simp +decide (maxSteps := 4000000) (disch := omega) only [k328_0, k328_2, k328_r, k328_s, T_I, F_is4i, F_is4r, F_is4m, F_is5i, F_is5r, F_is5m, T_ft, F_il5, J_iflt, F_il4, T_shl, F_il0, T_shr, T_and, T_i2l, F_il3, F_il2, T_sub, T_mulL, F_il1, T_addL, T_or, F_inc5i, F_inc5r, F_inc5m, T_goto, T_ret, c243, ↓s243, sr16, sr8, sr0, an255, sl_0, sl8, or_0, or8, J_l, L_mul, L_add, ↓reduceIte, TK, lt_run hn, le43, Int.le_refl, Int.lt_irrefl, Option.some.injEq, exists_eq_left', true_and, and_true, if_true, if_false, decide_eq_false_iff_not, decide_eq_true_eq, Nat.reduceAdd, Nat.reduceLeDiff, Nat.reduceLT, Int.reduceAdd, Int.reduceSub, Int.reduceMul, Int.reduceNeg, not_true_eq_false, not_false_eq_true]
  rw [k328_1]
  simp +decide (maxSteps := 4000000) (disch := omega) only [k328_0, k328_2, k328_r, k328_s, T_I, F_is4i, F_is4r, F_is4m, F_is5i, F_is5r, F_is5m, T_ft, F_il5, J_iflt, F_il4, T_shl, F_il0, T_shr, T_and, T_i2l, F_il3, F_il2, T_sub, T_mulL, F_il1, T_addL, T_or, F_inc5i, F_inc5r, F_inc5m, T_goto, T_ret, c243, ↓s243, e2, ↓reduceIte, TK, lt_run hn, le43, Int.le_refl, Int.lt_irrefl, Option.some.injEq, exists_eq_left', true_and, and_true, if_true, if_false, decide_eq_false_iff_not, decide_eq_true_eq, Nat.reduceAdd, Nat.reduceLeDiff, Nat.reduceLT, Int.reduceAdd, Int.reduceSub, Int.reduceMul, Int.reduceNeg, not_true_eq_false, not_false_eq_true]
theorem s327 (hn : 775 ≤ n) {x y s m : Int} (hx : -1 ≤ x ∧ x ≤ 16777215) (hy : -1 ≤ y ∧ y ≤ 16777215) (hs : 0 ≤ s ∧ s ≤ m) (hm : 1 ≤ m ∧ m ≤ 119) : Sp E 327 [.ref 704, .int (J x), .int (J y), .int (J s), .int (J m)] h hr n Q ↔ Q (some (.int (J (if x ≠ -1 ∧ y ≠ -1 then bl3 x y s m else if 2 * s < m then x else y))), h, hr, n) := by
  by_cases z1 : x = -1
  · rw [if_neg (fun q => q.1 z1)]
    by_cases z3 : 2 * s < m
    · rw [if_pos z3, z1]
      simp +decide (maxSteps := 4000000) (disch := omega) only [k327_0, k327_1, k327_2, k327_r, k327_s, F_il1, T_I, T_iceq, F_il2, F_il3, F_il4, T_ret, T_mul, T_icge, c328, ↓s328, z3, show ¬ m ≤ 2 * s by omega, ↓reduceIte, TK, lt_run hn, le43, Int.le_refl, Int.lt_irrefl, Option.some.injEq, exists_eq_left', true_and, and_true, if_true, if_false, decide_eq_false_iff_not, decide_eq_true_eq, Nat.reduceAdd, Nat.reduceLeDiff, Nat.reduceLT, Int.reduceAdd, Int.reduceSub, Int.reduceMul, Int.reduceNeg, not_true_eq_false, not_false_eq_true]
    · rw [if_neg z3, z1]
      simp +decide (maxSteps := 4000000) (disch := omega) only [k327_0, k327_1, k327_2, k327_r, k327_s, F_il1, T_I, T_iceq, F_il2, F_il3, F_il4, T_ret, T_mul, T_icge, c328, ↓s328, z3, show m ≤ 2 * s by omega, ↓reduceIte, TK, lt_run hn, le43, Int.le_refl, Int.lt_irrefl, Option.some.injEq, exists_eq_left', true_and, and_true, if_true, if_false, decide_eq_false_iff_not, decide_eq_true_eq, Nat.reduceAdd, Nat.reduceLeDiff, Nat.reduceLT, Int.reduceAdd, Int.reduceSub, Int.reduceMul, Int.reduceNeg, not_true_eq_false, not_false_eq_true]
  · by_cases z2 : y = -1
    · rw [if_neg (fun q => q.2 z2)]
      by_cases z3 : 2 * s < m
      · rw [if_pos z3, z2]
        simp +decide (maxSteps := 4000000) (disch := omega) only [k327_0, k327_1, k327_2, k327_r, k327_s, F_il1, T_I, T_iceq, F_il2, F_il3, F_il4, T_ret, T_mul, T_icge, c328, ↓s328, z1, z3, show ¬ m ≤ 2 * s by omega, ↓reduceIte, TK, lt_run hn, le43, Int.le_refl, Int.lt_irrefl, Option.some.injEq, exists_eq_left', true_and, and_true, if_true, if_false, decide_eq_false_iff_not, decide_eq_true_eq, Nat.reduceAdd, Nat.reduceLeDiff, Nat.reduceLT, Int.reduceAdd, Int.reduceSub, Int.reduceMul, Int.reduceNeg, not_true_eq_false, not_false_eq_true]
      · rw [if_neg z3, z2]
        simp +decide (maxSteps := 4000000) (disch := omega) only [k327_0, k327_1, k327_2, k327_r, k327_s, F_il1, T_I, T_iceq, F_il2, F_il3, F_il4, T_ret, T_mul, T_icge, c328, ↓s328, z1, z3, show m ≤ 2 * s by omega, ↓reduceIte, TK, lt_run hn, le43, Int.le_refl, Int.lt_irrefl, Option.some.injEq, exists_eq_left', true_and, and_true, if_true, if_false, decide_eq_false_iff_not, decide_eq_true_eq, Nat.reduceAdd, Nat.reduceLeDiff, Nat.reduceLT, Int.reduceAdd, Int.reduceSub, Int.reduceMul, Int.reduceNeg, not_true_eq_false, not_false_eq_true]
    · rw [if_pos ⟨z1, z2⟩]
      simp +decide (maxSteps := 4000000) (disch := omega) only [k327_0, k327_1, k327_2, k327_r, k327_s, F_il1, T_I, T_iceq, F_il2, F_il3, F_il4, T_ret, T_mul, T_icge, c328, ↓s328, z1, z2, ↓reduceIte, TK, lt_run hn, le43, Int.le_refl, Int.lt_irrefl, Option.some.injEq, exists_eq_left', true_and, and_true, if_true, if_false, decide_eq_false_iff_not, decide_eq_true_eq, Nat.reduceAdd, Nat.reduceLeDiff, Nat.reduceLT, Int.reduceAdd, Int.reduceSub, Int.reduceMul, Int.reduceNeg, not_true_eq_false, not_false_eq_true]
theorem w329 (F : FH hr) (hn : 775 ≤ n) {a : Int} (ha : 0 ≤ a ∧ a < 10) (P1 : SPc h a A) (R1 : pcR A) {x y : Int} (hx : 0 ≤ x ∧ x ≤ 47) (hy : 0 ≤ y ∧ y ≤ 31) (k : Q (some (.int (J (if A (y * 48 + x) = -1 then -1 else blr A x y))), h, hr, n)) : Sp E 329 [.ref 704, .int (J a), .int (J x), .int (J y)] h hr n Q := by
  have pa : ∀ u v, 0 ≤ v * 48 + u → v * 48 + u < 1536 → gA h 767 (1536 * a + 48 * v + u) = J (A (v * 48 + u)) := fun u v q0 q1 => by
    have := P1 (v * 48 + u) q0 q1
    rw [show 1536 * a + (v * 48 + u) = 1536 * a + 48 * v + u by omega] at this
    exact this
  have d0 := pa x y (by omega) (by omega)
  have r0 := R1 (y * 48 + x) (by omega) (by omega)
  by_cases z0 : A (y * 48 + x) = -1
  · rw [if_pos z0] at k
    simp +decide (maxSteps := 4000000) (disch := omega) only [k329_0, k329_1, k329_4, k329_5, k329_6, k329_7, k329_8, k329_9, k329_r, k329_s, F_al0, T_getR, T_I, F_il1, T_mul, F_il3, T_add, F_il2, X_iald, J_icne, T_ret, F_is4i, F_is4r, F_is4m, F_is5i, F_is5r, F_is5m, F_is6i, F_is6r, F_is6m, F_is7i, F_is7r, F_is7m, T_sub, F_is8i, F_is8r, F_is8m, T_ft, F_il8, T_icgt, F_is9i, F_is9r, F_is9m, F_il9, J_ifeq, T_goto, F_is10i, F_is10r, F_is10m, F_il10, F_inc4i, F_inc4r, F_inc4m, F_il5, T_shr, F_il6, T_and, F_il7, F_inc9i, F_inc9r, F_inc9m, F_inc8i, F_inc8r, F_inc8m, T_i2l, F_il4, T_shl, T_or, c237, c243, ↓s237, ↓s243, FM F, d0, z0, ln_767, ↓reduceIte, TK, lt_run hn, le43, Int.le_refl, Int.lt_irrefl, Option.some.injEq, exists_eq_left', true_and, and_true, if_true, if_false, decide_eq_false_iff_not, decide_eq_true_eq, Nat.reduceAdd, Nat.reduceLeDiff, Nat.reduceLT, Int.reduceAdd, Int.reduceSub, Int.reduceMul, Int.reduceNeg, not_true_eq_false, not_false_eq_true]
    exact k
  rw [if_neg z0] at k
  have p := tsB_p hx hy z0
  obtain ⟨⟨q1, q2, q3⟩, _⟩ := blr_r hx hy z0
  have t := fun k => tsB_r k A x y 3
  have t1 := t 1
  have t2 := t 2
  have t3 := t 3
  unfold blr pk3 at k
  simp +decide (maxSteps := 4000000) (disch := omega) only [k329_0, k329_1, k329_4, k329_5, k329_6, k329_7, k329_8, k329_9, k329_r, k329_s, F_al0, T_getR, T_I, F_il1, T_mul, F_il3, T_add, F_il2, X_iald, J_icne, T_ret, F_is4i, F_is4r, F_is4m, F_is5i, F_is5r, F_is5m, F_is6i, F_is6r, F_is6m, F_is7i, F_is7r, F_is7m, T_sub, F_is8i, F_is8r, F_is8m, T_ft, F_il8, T_icgt, F_is9i, F_is9r, F_is9m, F_il9, J_ifeq, T_goto, F_is10i, F_is10r, F_is10m, F_il10, F_inc4i, F_inc4r, F_inc4m, F_il5, T_shr, F_il6, T_and, F_il7, F_inc9i, F_inc9r, F_inc9m, F_inc8i, F_inc8r, F_inc8m, T_i2l, F_il4, T_shl, T_or, c237, c243, ↓s237, ↓s243, FM F, d0, z0, ln_767, ↓reduceIte, TK, lt_run hn, le43, Int.le_refl, Int.lt_irrefl, Option.some.injEq, exists_eq_left', true_and, and_true, if_true, if_false, decide_eq_false_iff_not, decide_eq_true_eq, Nat.reduceAdd, Nat.reduceLeDiff, Nat.reduceLT, Int.reduceAdd, Int.reduceSub, Int.reduceMul, Int.reduceNeg, not_true_eq_false, not_false_eq_true]
  have lp := T_for (E := E) (m := 329) (L := 2) (hr := hr) (n := n) (Q := Q) (σ := Value × Value) (fun v w => [.ref 704, .int (J a), .int (J x), .int (J y), .int (J (tsB 0 A x y (v - (y - 1)).toNat)), .int (J (tsB 1 A x y (v - (y - 1)).toNat)), .int (J (tsB 2 A x y (v - (y - 1)).toNat)), .int (J (tsB 3 A x y (v - (y - 1)).toNat)), .int (J v), w.1, w.2]) (fun _ _ h' => h' = h) (y - 1) (y + 2) ?_ ?_ (y - 1) (a_mk, a_mk) h (by omega) (by omega) rfl
  · rw [show (y - 1 - (y - 1)).toNat = 0 by omega] at lp
    exact lp
  · rintro v ⟨w8, w9⟩ h1 v0 v1 rfl ih
    dsimp only
    have ih' := fun w => ih w _ rfl
    rw [tsB_s 0 A x y (by omega), tsB_s 1 A x y (by omega), tsB_s 2 A x y (by omega), tsB_s 3 A x y (by omega)] at ih'
    have tr := fun k => tsB_r k A x y (v - (y - 1)).toNat
    have z1 := tr 1
    have z2 := tr 2
    have z3 := tr 3
    generalize tsB 0 A x y (v - (y - 1)).toNat = s0 at *
    generalize tsB 1 A x y (v - (y - 1)).toNat = s1 at *
    generalize tsB 2 A x y (v - (y - 1)).toNat = s2 at *
    generalize tsB 3 A x y (v - (y - 1)).toNat = s3 at *
    rw [k329_2]
    simp +decide (maxSteps := 4000000) (disch := omega) only [k329_0, k329_1, k329_4, k329_5, k329_6, k329_7, k329_8, k329_9, k329_r, k329_s, F_al0, T_getR, T_I, F_il1, T_mul, F_il3, T_add, F_il2, X_iald, J_icne, T_ret, F_is4i, F_is4r, F_is4m, F_is5i, F_is5r, F_is5m, F_is6i, F_is6r, F_is6m, F_is7i, F_is7r, F_is7m, T_sub, F_is8i, F_is8r, F_is8m, T_ft, F_il8, T_icgt, F_is9i, F_is9r, F_is9m, F_il9, J_ifeq, T_goto, F_is10i, F_is10r, F_is10m, F_il10, F_inc4i, F_inc4r, F_inc4m, F_il5, T_shr, F_il6, T_and, F_il7, F_inc9i, F_inc9r, F_inc9m, F_inc8i, F_inc8r, F_inc8m, T_i2l, F_il4, T_shl, T_or, c237, c243, ↓s237, ↓s243, show ¬ y + 1 < v by omega, ↓reduceIte, TK, lt_run hn, le43, Int.le_refl, Int.lt_irrefl, Option.some.injEq, exists_eq_left', true_and, and_true, if_true, if_false, decide_eq_false_iff_not, decide_eq_true_eq, Nat.reduceAdd, Nat.reduceLeDiff, Nat.reduceLT, Int.reduceAdd, Int.reduceSub, Int.reduceMul, Int.reduceNeg, not_true_eq_false, not_false_eq_true]
    have lq := T_for (E := E) (m := 329) (L := 3) (hr := hr) (n := n) (Q := Q) (σ := Value) (fun u w => [.ref 704, .int (J a), .int (J x), .int (J y), .int (J (s0 + rsB 0 A x v (u - (x - 1)).toNat)), .int (J (s1 + rsB 1 A x v (u - (x - 1)).toNat)), .int (J (s2 + rsB 2 A x v (u - (x - 1)).toNat)), .int (J (s3 + rsB 3 A x v (u - (x - 1)).toNat)), .int (J v), .int (J u), w]) (fun _ _ h' => h' = h1) (x - 1) (x + 2) ?_ ?_ (x - 1) w9 h1 (by omega) (by omega) rfl
    · rw [show (x - 1 - (x - 1)).toNat = 0 by omega] at lq
      rw [show rsB 0 A x v 0 = 0 from rfl, show rsB 1 A x v 0 = 0 from rfl, show rsB 2 A x v 0 = 0 from rfl, show rsB 3 A x v 0 = 0 from rfl, Int.add_zero, Int.add_zero, Int.add_zero, Int.add_zero] at lq
      exact lq
    · rintro u w h2 u0 u1 rfl ihu
      have ihu' := fun w => ihu w _ rfl
      rw [rsB_s 0 A x v (by omega), rsB_s 1 A x v (by omega), rsB_s 2 A x v (by omega), rsB_s 3 A x v (by omega)] at ihu'
      unfold tmB at ihu'
      by_cases g0 : (0 ≤ u ∧ u ≤ 47) ∧ 0 ≤ v ∧ v ≤ 31
      · have d1 := pa u v (by omega) (by omega)
        have r1 := R1 (v * 48 + u) (by omega) (by omega)
        by_cases g : A (v * 48 + u) = -1
        · have ng : ¬ (((0 ≤ u ∧ u ≤ 47) ∧ 0 ≤ v ∧ v ≤ 31) ∧ A (v * 48 + u) ≠ -1) := fun q => q.2 g
          simp only [if_neg ng, Int.add_zero] at ihu'
          rw [k329_3]
          simp +decide (maxSteps := 4000000) (disch := omega) only [k329_0, k329_1, k329_4, k329_5, k329_6, k329_7, k329_8, k329_9, k329_r, k329_s, F_al0, T_getR, T_I, F_il1, T_mul, F_il3, T_add, F_il2, X_iald, J_icne, T_ret, F_is4i, F_is4r, F_is4m, F_is5i, F_is5r, F_is5m, F_is6i, F_is6r, F_is6m, F_is7i, F_is7r, F_is7m, T_sub, F_is8i, F_is8r, F_is8m, T_ft, F_il8, T_icgt, F_is9i, F_is9r, F_is9m, F_il9, J_ifeq, T_goto, F_is10i, F_is10r, F_is10m, F_il10, F_inc4i, F_inc4r, F_inc4m, F_il5, T_shr, F_il6, T_and, F_il7, F_inc9i, F_inc9r, F_inc9m, F_inc8i, F_inc8r, F_inc8m, T_i2l, F_il4, T_shl, T_or, c237, c243, ↓s237, ↓s243, FM F, d1, g, g0, Bz_t, ln_767, show ¬ x + 1 < u by omega, ↓reduceIte, TK, lt_run hn, le43, Int.le_refl, Int.lt_irrefl, Option.some.injEq, exists_eq_left', true_and, and_true, if_true, if_false, decide_eq_false_iff_not, decide_eq_true_eq, Nat.reduceAdd, Nat.reduceLeDiff, Nat.reduceLT, Int.reduceAdd, Int.reduceSub, Int.reduceMul, Int.reduceNeg, not_true_eq_false, not_false_eq_true]
          exact ihu' _
        · have ng : ((0 ≤ u ∧ u ≤ 47) ∧ 0 ≤ v ∧ v ≤ 31) ∧ A (v * 48 + u) ≠ -1 := ⟨g0, g⟩
          have er : A (v * 48 + u) / 65536 % 256 = A (v * 48 + u) / 65536 := by omega
          simp +decide only [if_pos ng, if_true, if_false, ← Int.add_assoc] at ihu'
          rw [er] at ihu'
          rw [k329_3]
          simp +decide (maxSteps := 4000000) (disch := omega) only [k329_0, k329_1, k329_4, k329_5, k329_6, k329_7, k329_8, k329_9, k329_r, k329_s, F_al0, T_getR, T_I, F_il1, T_mul, F_il3, T_add, F_il2, X_iald, J_icne, T_ret, F_is4i, F_is4r, F_is4m, F_is5i, F_is5r, F_is5m, F_is6i, F_is6r, F_is6m, F_is7i, F_is7r, F_is7m, T_sub, F_is8i, F_is8r, F_is8m, T_ft, F_il8, T_icgt, F_is9i, F_is9r, F_is9m, F_il9, J_ifeq, T_goto, F_is10i, F_is10r, F_is10m, F_il10, F_inc4i, F_inc4r, F_inc4m, F_il5, T_shr, F_il6, T_and, F_il7, F_inc9i, F_inc9r, F_inc9m, F_inc8i, F_inc8r, F_inc8m, T_i2l, F_il4, T_shl, T_or, c237, c243, ↓s237, ↓s243, FM F, d1, g, g0, Bz_t, sr16, sr8, an255, ln_767, show ¬ x + 1 < u by omega, ↓reduceIte, TK, lt_run hn, le43, Int.le_refl, Int.lt_irrefl, Option.some.injEq, exists_eq_left', true_and, and_true, if_true, if_false, decide_eq_false_iff_not, decide_eq_true_eq, Nat.reduceAdd, Nat.reduceLeDiff, Nat.reduceLT, Int.reduceAdd, Int.reduceSub, Int.reduceMul, Int.reduceNeg, not_true_eq_false, not_false_eq_true]
          exact ihu' _
      · have ng : ¬ (((0 ≤ u ∧ u ≤ 47) ∧ 0 ≤ v ∧ v ≤ 31) ∧ A (v * 48 + u) ≠ -1) := fun q => g0 q.1
        simp only [if_neg ng, Int.add_zero] at ihu'
        rw [k329_3]
        simp +decide (maxSteps := 4000000) (disch := omega) only [k329_0, k329_1, k329_4, k329_5, k329_6, k329_7, k329_8, k329_9, k329_r, k329_s, F_al0, T_getR, T_I, F_il1, T_mul, F_il3, T_add, F_il2, X_iald, J_icne, T_ret, F_is4i, F_is4r, F_is4m, F_is5i, F_is5r, F_is5m, F_is6i, F_is6r, F_is6m, F_is7i, F_is7r, F_is7m, T_sub, F_is8i, F_is8r, F_is8m, T_ft, F_il8, T_icgt, F_is9i, F_is9r, F_is9m, F_il9, J_ifeq, T_goto, F_is10i, F_is10r, F_is10m, F_il10, F_inc4i, F_inc4r, F_inc4m, F_il5, T_shr, F_il6, T_and, F_il7, F_inc9i, F_inc9r, F_inc9m, F_inc8i, F_inc8r, F_inc8m, T_i2l, F_il4, T_shl, T_or, c237, c243, ↓s237, ↓s243, FM F, g0, Bz_f, show ¬ x + 1 < u by omega, ↓reduceIte, TK, lt_run hn, le43, Int.le_refl, Int.lt_irrefl, Option.some.injEq, exists_eq_left', true_and, and_true, if_true, if_false, decide_eq_false_iff_not, decide_eq_true_eq, Nat.reduceAdd, Nat.reduceLeDiff, Nat.reduceLT, Int.reduceAdd, Int.reduceSub, Int.reduceMul, Int.reduceNeg, not_true_eq_false, not_false_eq_true]
        exact ihu' _
    · rintro w h2 rfl
      rw [show (x + 2 - (x - 1)).toNat = 3 by omega]
      rw [k329_3]
      simp +decide (maxSteps := 4000000) (disch := omega) only [k329_0, k329_1, k329_4, k329_5, k329_6, k329_7, k329_8, k329_9, k329_r, k329_s, F_al0, T_getR, T_I, F_il1, T_mul, F_il3, T_add, F_il2, X_iald, J_icne, T_ret, F_is4i, F_is4r, F_is4m, F_is5i, F_is5r, F_is5m, F_is6i, F_is6r, F_is6m, F_is7i, F_is7r, F_is7m, T_sub, F_is8i, F_is8r, F_is8m, T_ft, F_il8, T_icgt, F_is9i, F_is9r, F_is9m, F_il9, J_ifeq, T_goto, F_is10i, F_is10r, F_is10m, F_il10, F_inc4i, F_inc4r, F_inc4m, F_il5, T_shr, F_il6, T_and, F_il7, F_inc9i, F_inc9r, F_inc9m, F_inc8i, F_inc8r, F_inc8m, T_i2l, F_il4, T_shl, T_or, c237, c243, ↓s237, ↓s243, show x + 1 < x + 2 by omega, ↓reduceIte, TK, lt_run hn, le43, Int.le_refl, Int.lt_irrefl, Option.some.injEq, exists_eq_left', true_and, and_true, if_true, if_false, decide_eq_false_iff_not, decide_eq_true_eq, Nat.reduceAdd, Nat.reduceLeDiff, Nat.reduceLT, Int.reduceAdd, Int.reduceSub, Int.reduceMul, Int.reduceNeg, not_true_eq_false, not_false_eq_true]
      exact ih' (_, _)
  · rintro ⟨w8, w9⟩ h1 rfl
    dsimp only
    rw [show (y + 2 - (y - 1)).toNat = 3 by omega]
    rw [k329_2]
    simp +decide (maxSteps := 4000000) (disch := omega) only [k329_0, k329_1, k329_4, k329_5, k329_6, k329_7, k329_8, k329_9, k329_r, k329_s, F_al0, T_getR, T_I, F_il1, T_mul, F_il3, T_add, F_il2, X_iald, J_icne, T_ret, F_is4i, F_is4r, F_is4m, F_is5i, F_is5r, F_is5m, F_is6i, F_is6r, F_is6m, F_is7i, F_is7r, F_is7m, T_sub, F_is8i, F_is8r, F_is8m, T_ft, F_il8, T_icgt, F_is9i, F_is9r, F_is9m, F_il9, J_ifeq, T_goto, F_is10i, F_is10r, F_is10m, F_il10, F_inc4i, F_inc4r, F_inc4m, F_il5, T_shr, F_il6, T_and, F_il7, F_inc9i, F_inc9r, F_inc9m, F_inc8i, F_inc8r, F_inc8m, T_i2l, F_il4, T_shl, T_or, c237, c243, ↓s237, ↓s243, show y + 1 < y + 2 by omega, J_l, sl16, sl8, or16, or8', ↓reduceIte, TK, lt_run hn, le43, Int.le_refl, Int.lt_irrefl, Option.some.injEq, exists_eq_left', true_and, and_true, if_true, if_false, decide_eq_false_iff_not, decide_eq_true_eq, Nat.reduceAdd, Nat.reduceLeDiff, Nat.reduceLT, Int.reduceAdd, Int.reduceSub, Int.reduceMul, Int.reduceNeg, not_true_eq_false, not_false_eq_true]
    exact k
end RF
