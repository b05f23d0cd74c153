/-! film: a frame of the reference -/
section FR1
variable {E : AEn} {h h' : AHi} {hr : AHr} {n : Nat} {Q : ARs → Prop} {l : List Int} {A B : Pic} {t : Int}
/-- the frame in the reel, and the one before -/
def RB (h : AHi) (t : Int) (A B : Pic) : Prop := (∀ q, 0 ≤ q → q < 1536 → gA h 768 (1536 * t + q) = J (A q)) ∧ PA h 769 B
theorem RB.ef (C : RB h t A B) (e : Ef Sv h h') : RB h' t A B := ⟨fun q q0 q1 => (e.g (fun z => by unfold Sv at z; omega)).trans (C.1 q q0 q1), C.2.ef e (fun k z => by unfold Sv at z; omega)⟩
theorem z332s (F : FH hr) (hn : 775 ≤ n) (ht : 0 ≤ t ∧ t < 8) (C : RB h t A B) (R1 : pcR A) (R2 : pcR B) {p : Int} (hp : 0 ≤ p) {v4 v5 v6 : Value} : ∀ (k : Nat) (i : Int), i + k = 255 → 0 ≤ i → p + i ≤ 1536 → Tm E 332 (a_bl 332 3) [.ref 704, .int (J (1536 * t)), .int (J (p + (i + rnn A B true (p + i) k))), .int (J (i + rnn A B true (p + i) k)), v4, v5, v6] [] h hr n Q → Tm E 332 (a_bl 332 2) [.ref 704, .int (J (1536 * t)), .int (J (p + i)), .int (J i), v4, v5, v6] [] h hr n Q := by
  intro k
  induction k with
  | zero =>
    intro i hi i0 i1 q
    have e : rnn A B true (p + i) 0 = 0 := rfl
    rw [e, Int.add_zero] at q
    by_cases z0 : 1536 ≤ p + i
    · rw [k332_2]
      simp +decide (maxSteps := 4000000) (disch := omega) only [k332_0, k332_5, k332_7, k332_8, k332_9, k332_10, k332_r, k332_s, T_I, F_is2i, F_is2r, F_is2m, T_ft, F_il2, T_icge, F_is3i, F_is3r, F_is3m, F_il3, F_al0, T_getR, F_il1, T_add, X_iald, J_icne, F_inc3i, F_inc3r, F_inc3m, F_inc2i, F_inc2r, F_inc2m, T_goto, F_is4i, F_is4r, F_is4m, F_il4, T_iceq, F_inc4i, F_inc4r, F_inc4m, F_is5i, F_is5r, F_is5m, F_il5, F_is6i, F_is6r, F_is6m, F_il6, T_shr, T_and, F_inc5i, F_inc5r, F_inc5m, T_ret, c233, z0, ↓reduceIte, TK, lt_run hn, le43, Int.le_refl, Int.lt_irrefl, Option.some.injEq, exists_eq_left', true_and, and_true, if_true, if_false, decide_eq_false_iff_not, decide_eq_true_eq, Nat.reduceAdd, Nat.reduceLeDiff, Nat.reduceLT, Int.reduceAdd, Int.reduceSub, Int.reduceMul, Int.reduceNeg, not_true_eq_false, not_false_eq_true]
      exact q
    · rw [k332_2]
      simp +decide (maxSteps := 4000000) (disch := omega) only [k332_0, k332_5, k332_7, k332_8, k332_9, k332_10, k332_r, k332_s, T_I, F_is2i, F_is2r, F_is2m, T_ft, F_il2, T_icge, F_is3i, F_is3r, F_is3m, F_il3, F_al0, T_getR, F_il1, T_add, X_iald, J_icne, F_inc3i, F_inc3r, F_inc3m, F_inc2i, F_inc2r, F_inc2m, T_goto, F_is4i, F_is4r, F_is4m, F_il4, T_iceq, F_inc4i, F_inc4r, F_inc4m, F_is5i, F_is5r, F_is5m, F_il5, F_is6i, F_is6r, F_is6m, F_il6, T_shr, T_and, F_inc5i, F_inc5r, F_inc5m, T_ret, c233, z0, show 255 ≤ i by omega, ↓reduceIte, TK, lt_run hn, le43, Int.le_refl, Int.lt_irrefl, Option.some.injEq, exists_eq_left', true_and, and_true, if_true, if_false, decide_eq_false_iff_not, decide_eq_true_eq, Nat.reduceAdd, Nat.reduceLeDiff, Nat.reduceLT, Int.reduceAdd, Int.reduceSub, Int.reduceMul, Int.reduceNeg, not_true_eq_false, not_false_eq_true]
      exact q
  | succ k ih =>
    intro i hi i0 i1 q
    have e : rnn A B true (p + i) (k + 1) = if p + i < 1536 ∧ decide (A (p + i) = B (p + i)) = true then 1 + rnn A B true (p + i + 1) k else 0 := rfl
    by_cases z0 : p + i < 1536
    case neg =>
      rw [if_neg (fun w => z0 w.1)] at e
      rw [e, Int.add_zero] at q
      rw [k332_2]
      simp +decide (maxSteps := 4000000) (disch := omega) only [k332_0, k332_5, k332_7, k332_8, k332_9, k332_10, k332_r, k332_s, T_I, F_is2i, F_is2r, F_is2m, T_ft, F_il2, T_icge, F_is3i, F_is3r, F_is3m, F_il3, F_al0, T_getR, F_il1, T_add, X_iald, J_icne, F_inc3i, F_inc3r, F_inc3m, F_inc2i, F_inc2r, F_inc2m, T_goto, F_is4i, F_is4r, F_is4m, F_il4, T_iceq, F_inc4i, F_inc4r, F_inc4m, F_is5i, F_is5r, F_is5m, F_il5, F_is6i, F_is6r, F_is6m, F_il6, T_shr, T_and, F_inc5i, F_inc5r, F_inc5m, T_ret, c233, show 1536 ≤ p + i by omega, ↓reduceIte, TK, lt_run hn, le43, Int.le_refl, Int.lt_irrefl, Option.some.injEq, exists_eq_left', true_and, and_true, if_true, if_false, decide_eq_false_iff_not, decide_eq_true_eq, Nat.reduceAdd, Nat.reduceLeDiff, Nat.reduceLT, Int.reduceAdd, Int.reduceSub, Int.reduceMul, Int.reduceNeg, not_true_eq_false, not_false_eq_true]
      exact q
    have d1 := C.1 (p + i) (by omega) z0
    have d2 := C.2 (p + i) (by omega) z0
    have r1 := R1 (p + i) (by omega) z0
    have r2 := R2 (p + i) (by omega) z0
    by_cases z1 : A (p + i) = B (p + i)
    · have ih' := ih (i + 1) (by omega) (by omega) (by omega)
      rw [if_pos ⟨z0, decide_eq_true z1⟩] at e
      rw [e] at q
      rw [show p + (i + 1) = p + i + 1 by omega, show i + 1 + rnn A B true (p + i + 1) k = i + (1 + rnn A B true (p + i + 1) k) by omega] at ih'
      rw [k332_2]
      simp +decide (maxSteps := 4000000) (disch := omega) only [k332_0, k332_5, k332_7, k332_8, k332_9, k332_10, k332_r, k332_s, T_I, F_is2i, F_is2r, F_is2m, T_ft, F_il2, T_icge, F_is3i, F_is3r, F_is3m, F_il3, F_al0, T_getR, F_il1, T_add, X_iald, J_icne, F_inc3i, F_inc3r, F_inc3m, F_inc2i, F_inc2r, F_inc2m, T_goto, F_is4i, F_is4r, F_is4m, F_il4, T_iceq, F_inc4i, F_inc4r, F_inc4m, F_is5i, F_is5r, F_is5m, F_il5, F_is6i, F_is6r, F_is6m, F_il6, T_shr, T_and, F_inc5i, F_inc5r, F_inc5m, T_ret, c233, FM F, d1, d2, eq_true z1, ln_768, ln_769, show ¬ 255 ≤ i by omega, show ¬ 1536 ≤ p + i by omega, ↓reduceIte, TK, lt_run hn, le43, Int.le_refl, Int.lt_irrefl, Option.some.injEq, exists_eq_left', true_and, and_true, if_true, if_false, decide_eq_false_iff_not, decide_eq_true_eq, Nat.reduceAdd, Nat.reduceLeDiff, Nat.reduceLT, Int.reduceAdd, Int.reduceSub, Int.reduceMul, Int.reduceNeg, not_true_eq_false, not_false_eq_true]
      exact ih' q
    · rw [if_neg (fun w => z1 (of_decide_eq_true w.2))] at e
      rw [e, Int.add_zero] at q
      rw [k332_2]
      simp +decide (maxSteps := 4000000) (disch := omega) only [k332_0, k332_5, k332_7, k332_8, k332_9, k332_10, k332_r, k332_s, T_I, F_is2i, F_is2r, F_is2m, T_ft, F_il2, T_icge, F_is3i, F_is3r, F_is3m, F_il3, F_al0, T_getR, F_il1, T_add, X_iald, J_icne, F_inc3i, F_inc3r, F_inc3m, F_inc2i, F_inc2r, F_inc2m, T_goto, F_is4i, F_is4r, F_is4m, F_il4, T_iceq, F_inc4i, F_inc4r, F_inc4m, F_is5i, F_is5r, F_is5m, F_il5, F_is6i, F_is6r, F_is6m, F_il6, T_shr, T_and, F_inc5i, F_inc5r, F_inc5m, T_ret, c233, FM F, d1, d2, z1, ln_768, ln_769, show ¬ 255 ≤ i by omega, show ¬ 1536 ≤ p + i by omega, ↓reduceIte, TK, lt_run hn, le43, Int.le_refl, Int.lt_irrefl, Option.some.injEq, exists_eq_left', true_and, and_true, if_true, if_false, decide_eq_false_iff_not, decide_eq_true_eq, Nat.reduceAdd, Nat.reduceLeDiff, Nat.reduceLT, Int.reduceAdd, Int.reduceSub, Int.reduceMul, Int.reduceNeg, not_true_eq_false, not_false_eq_true]
      exact q
theorem z332o (F : FH hr) (hn : 775 ≤ n) (ht : 0 ≤ t ∧ t < 8) (C : RB h t A B) (R1 : pcR A) (R2 : pcR B) {p s : Int} (hp : 0 ≤ p) {v5 v6 : Value} : ∀ (k : Nat) (i : Int), i + k = 255 → 0 ≤ i → p + i ≤ 1536 → Tm E 332 (a_bl 332 5) [.ref 704, .int (J (1536 * t)), .int (J p), .int (J s), .int (J (i + rnn A B false (p + i) k)), v5, v6] [] h hr n Q → Tm E 332 (a_bl 332 4) [.ref 704, .int (J (1536 * t)), .int (J p), .int (J s), .int (J i), v5, v6] [] h hr n Q := by
  intro k
  induction k with
  | zero =>
    intro i hi i0 i1 q
    have e : rnn A B false (p + i) 0 = 0 := rfl
    rw [e, Int.add_zero] at q
    by_cases z0 : 1536 ≤ p + i
    · rw [k332_4]
      simp +decide (maxSteps := 4000000) (disch := omega) only [k332_0, k332_3, k332_7, k332_8, k332_9, k332_10, k332_r, k332_s, T_I, F_is2i, F_is2r, F_is2m, T_ft, F_il2, T_icge, F_is3i, F_is3r, F_is3m, F_il3, F_al0, T_getR, F_il1, T_add, X_iald, J_icne, F_inc3i, F_inc3r, F_inc3m, F_inc2i, F_inc2r, F_inc2m, T_goto, F_is4i, F_is4r, F_is4m, F_il4, T_iceq, F_inc4i, F_inc4r, F_inc4m, F_is5i, F_is5r, F_is5m, F_il5, F_is6i, F_is6r, F_is6m, F_il6, T_shr, T_and, F_inc5i, F_inc5r, F_inc5m, T_ret, c233, z0, ↓reduceIte, TK, lt_run hn, le43, Int.le_refl, Int.lt_irrefl, Option.some.injEq, exists_eq_left', true_and, and_true, if_true, if_false, decide_eq_false_iff_not, decide_eq_true_eq, Nat.reduceAdd, Nat.reduceLeDiff, Nat.reduceLT, Int.reduceAdd, Int.reduceSub, Int.reduceMul, Int.reduceNeg, not_true_eq_false, not_false_eq_true]
      exact q
    · rw [k332_4]
      simp +decide (maxSteps := 4000000) (disch := omega) only [k332_0, k332_3, k332_7, k332_8, k332_9, k332_10, k332_r, k332_s, T_I, F_is2i, F_is2r, F_is2m, T_ft, F_il2, T_icge, F_is3i, F_is3r, F_is3m, F_il3, F_al0, T_getR, F_il1, T_add, X_iald, J_icne, F_inc3i, F_inc3r, F_inc3m, F_inc2i, F_inc2r, F_inc2m, T_goto, F_is4i, F_is4r, F_is4m, F_il4, T_iceq, F_inc4i, F_inc4r, F_inc4m, F_is5i, F_is5r, F_is5m, F_il5, F_is6i, F_is6r, F_is6m, F_il6, T_shr, T_and, F_inc5i, F_inc5r, F_inc5m, T_ret, c233, z0, show 255 ≤ i by omega, ↓reduceIte, TK, lt_run hn, le43, Int.le_refl, Int.lt_irrefl, Option.some.injEq, exists_eq_left', true_and, and_true, if_true, if_false, decide_eq_false_iff_not, decide_eq_true_eq, Nat.reduceAdd, Nat.reduceLeDiff, Nat.reduceLT, Int.reduceAdd, Int.reduceSub, Int.reduceMul, Int.reduceNeg, not_true_eq_false, not_false_eq_true]
      exact q
  | succ k ih =>
    intro i hi i0 i1 q
    have e : rnn A B false (p + i) (k + 1) = if p + i < 1536 ∧ decide (A (p + i) = B (p + i)) = false then 1 + rnn A B false (p + i + 1) k else 0 := rfl
    by_cases z0 : p + i < 1536
    case neg =>
      rw [if_neg (fun w => z0 w.1)] at e
      rw [e, Int.add_zero] at q
      rw [k332_4]
      simp +decide (maxSteps := 4000000) (disch := omega) only [k332_0, k332_3, k332_7, k332_8, k332_9, k332_10, k332_r, k332_s, T_I, F_is2i, F_is2r, F_is2m, T_ft, F_il2, T_icge, F_is3i, F_is3r, F_is3m, F_il3, F_al0, T_getR, F_il1, T_add, X_iald, J_icne, F_inc3i, F_inc3r, F_inc3m, F_inc2i, F_inc2r, F_inc2m, T_goto, F_is4i, F_is4r, F_is4m, F_il4, T_iceq, F_inc4i, F_inc4r, F_inc4m, F_is5i, F_is5r, F_is5m, F_il5, F_is6i, F_is6r, F_is6m, F_il6, T_shr, T_and, F_inc5i, F_inc5r, F_inc5m, T_ret, c233, show 1536 ≤ p + i by omega, ↓reduceIte, TK, lt_run hn, le43, Int.le_refl, Int.lt_irrefl, Option.some.injEq, exists_eq_left', true_and, and_true, if_true, if_false, decide_eq_false_iff_not, decide_eq_true_eq, Nat.reduceAdd, Nat.reduceLeDiff, Nat.reduceLT, Int.reduceAdd, Int.reduceSub, Int.reduceMul, Int.reduceNeg, not_true_eq_false, not_false_eq_true]
      exact q
    have d1 := C.1 (p + i) (by omega) z0
    rw [show 1536 * t + (p + i) = 1536 * t + p + i by omega] at d1
    have d2 := C.2 (p + i) (by omega) z0
    have r1 := R1 (p + i) (by omega) z0
    have r2 := R2 (p + i) (by omega) z0
    by_cases z1 : A (p + i) = B (p + i)
    · rw [if_neg (fun w => of_decide_eq_false w.2 z1)] at e
      rw [e, Int.add_zero] at q
      rw [k332_4]
      simp +decide (maxSteps := 4000000) (disch := omega) only [k332_0, k332_3, k332_7, k332_8, k332_9, k332_10, k332_r, k332_s, T_I, F_is2i, F_is2r, F_is2m, T_ft, F_il2, T_icge, F_is3i, F_is3r, F_is3m, F_il3, F_al0, T_getR, F_il1, T_add, X_iald, J_icne, F_inc3i, F_inc3r, F_inc3m, F_inc2i, F_inc2r, F_inc2m, T_goto, F_is4i, F_is4r, F_is4m, F_il4, T_iceq, F_inc4i, F_inc4r, F_inc4m, F_is5i, F_is5r, F_is5m, F_il5, F_is6i, F_is6r, F_is6m, F_il6, T_shr, T_and, F_inc5i, F_inc5r, F_inc5m, T_ret, c233, FM F, d1, d2, eq_true z1, ln_768, ln_769, show ¬ 255 ≤ i by omega, show ¬ 1536 ≤ p + i by omega, ↓reduceIte, TK, lt_run hn, le43, Int.le_refl, Int.lt_irrefl, Option.some.injEq, exists_eq_left', true_and, and_true, if_true, if_false, decide_eq_false_iff_not, decide_eq_true_eq, Nat.reduceAdd, Nat.reduceLeDiff, Nat.reduceLT, Int.reduceAdd, Int.reduceSub, Int.reduceMul, Int.reduceNeg, not_true_eq_false, not_false_eq_true]
      exact q
    · have ih' := ih (i + 1) (by omega) (by omega) (by omega)
      rw [if_pos ⟨z0, decide_eq_false z1⟩] at e
      rw [e] at q
      rw [show p + (i + 1) = p + i + 1 by omega, show i + 1 + rnn A B false (p + i + 1) k = i + (1 + rnn A B false (p + i + 1) k) by omega] at ih'
      rw [k332_4]
      simp +decide (maxSteps := 4000000) (disch := omega) only [k332_0, k332_3, k332_7, k332_8, k332_9, k332_10, k332_r, k332_s, T_I, F_is2i, F_is2r, F_is2m, T_ft, F_il2, T_icge, F_is3i, F_is3r, F_is3m, F_il3, F_al0, T_getR, F_il1, T_add, X_iald, J_icne, F_inc3i, F_inc3r, F_inc3m, F_inc2i, F_inc2r, F_inc2m, T_goto, F_is4i, F_is4r, F_is4m, F_il4, T_iceq, F_inc4i, F_inc4r, F_inc4m, F_is5i, F_is5r, F_is5m, F_il5, F_is6i, F_is6r, F_is6m, F_il6, T_shr, T_and, F_inc5i, F_inc5r, F_inc5m, T_ret, c233, FM F, d1, d2, z1, ln_768, ln_769, show ¬ 255 ≤ i by omega, show ¬ 1536 ≤ p + i by omega, ↓reduceIte, TK, lt_run hn, le43, Int.le_refl, Int.lt_irrefl, Option.some.injEq, exists_eq_left', true_and, and_true, if_true, if_false, decide_eq_false_iff_not, decide_eq_true_eq, Nat.reduceAdd, Nat.reduceLeDiff, Nat.reduceLT, Int.reduceAdd, Int.reduceSub, Int.reduceMul, Int.reduceNeg, not_true_eq_false, not_false_eq_true]
      exact ih' q
/-- a pixel of the reference is written -/
theorem z332 (F : FH hr) (hn : 775 ≤ n) (ht : 0 ≤ t ∧ t < 8) (C : RB h t A B) (R1 : pcR A) (R2 : pcR B) {L : List Int} (hL : (L.length : Int) ≤ 49264)
    (k : ∀ h', Ef Sv h h' → OM h' L → Q (none, h', hr, n)) : ∀ (q : Nat) (p : Int) (h1 : AHi) (m : List Int) (v3 v4 v5 v6 : Value), 1536 - p ≤ q → 0 ≤ p → p ≤ 1536 → Ef Sv h h1 → OM h1 m → m ++ enc A B p q = L → Tm E 332 (a_bl 332 1) [.ref 704, .int (J (1536 * t)), .int (J p), v3, v4, v5, v6] [] h1 hr n Q := by
  intro q
  induction q with
  | zero =>
    intro p h1 m v3 v4 v5 v6 hq p0 p1 e1 C1 c1
    have ep : p = 1536 := by omega
    rw [ep, enc_z, List.append_nil] at c1
    rw [c1] at C1
    rw [ep]
    rw [k332_1]
    simp +decide (maxSteps := 4000000) (disch := omega) only [k332_0, k332_3, k332_5, k332_7, k332_8, k332_9, k332_10, k332_r, k332_s, T_I, F_is2i, F_is2r, F_is2m, T_ft, F_il2, T_icge, F_is3i, F_is3r, F_is3m, F_il3, F_al0, T_getR, F_il1, T_add, X_iald, J_icne, F_inc3i, F_inc3r, F_inc3m, F_inc2i, F_inc2r, F_inc2m, T_goto, F_is4i, F_is4r, F_is4m, F_il4, T_iceq, F_inc4i, F_inc4r, F_inc4m, F_is5i, F_is5r, F_is5m, F_il5, F_is6i, F_is6r, F_is6m, F_il6, T_shr, T_and, F_inc5i, F_inc5r, F_inc5m, T_ret, c233, ↓reduceIte, TK, lt_run hn, le43, Int.le_refl, Int.lt_irrefl, Option.some.injEq, exists_eq_left', true_and, and_true, if_true, if_false, decide_eq_false_iff_not, decide_eq_true_eq, Nat.reduceAdd, Nat.reduceLeDiff, Nat.reduceLT, Int.reduceAdd, Int.reduceSub, Int.reduceMul, Int.reduceNeg, not_true_eq_false, not_false_eq_true]
    exact k h1 e1 C1
  | succ q ih =>
    intro p h1 m v3 v4 v5 v6 hq p0 p1 e1 C1 c1
    by_cases z : p = 1536
    · rw [z, enc_z, List.append_nil] at c1
      rw [c1] at C1
      rw [z]
      rw [k332_1]
      simp +decide (maxSteps := 4000000) (disch := omega) only [k332_0, k332_3, k332_5, k332_7, k332_8, k332_9, k332_10, k332_r, k332_s, T_I, F_is2i, F_is2r, F_is2m, T_ft, F_il2, T_icge, F_is3i, F_is3r, F_is3m, F_il3, F_al0, T_getR, F_il1, T_add, X_iald, J_icne, F_inc3i, F_inc3r, F_inc3m, F_inc2i, F_inc2r, F_inc2m, T_goto, F_is4i, F_is4r, F_is4m, F_il4, T_iceq, F_inc4i, F_inc4r, F_inc4m, F_is5i, F_is5r, F_is5m, F_il5, F_is6i, F_is6r, F_is6m, F_il6, T_shr, T_and, F_inc5i, F_inc5r, F_inc5m, T_ret, c233, ↓reduceIte, TK, lt_run hn, le43, Int.le_refl, Int.lt_irrefl, Option.some.injEq, exists_eq_left', true_and, and_true, if_true, if_false, decide_eq_false_iff_not, decide_eq_true_eq, Nat.reduceAdd, Nat.reduceLeDiff, Nat.reduceLT, Int.reduceAdd, Int.reduceSub, Int.reduceMul, Int.reduceNeg, not_true_eq_false, not_false_eq_true]
      exact k h1 e1 C1
    have rs := rnn_r (A := A) (B := B) true 255 p p1
    have ro := rnn_r (A := A) (B := B) false 255 (p + rnn A B true p 255) rs.2.2
    have ss : decide (A p = B p) = true → 1 ≤ rnn A B true p 255 := rnn_1 (k := 254) true (by omega)
    have s2 : decide (A p = B p) = false → 1 ≤ rnn A B false p 255 := rnn_1 (k := 254) false (by omega)
    have prog : 1 ≤ rnn A B true p 255 + rnn A B false (p + rnn A B true p 255) 255 := by
      by_cases w : A p = B p
      · have := ss (decide_eq_true w)
        omega
      · by_cases w2 : rnn A B true p 255 = 0
        · rw [w2, Int.add_zero]
          have := s2 (decide_eq_false w)
          omega
        · omega
    have ee : enc A B p (q + 1) = [rnn A B true p 255, rnn A B false (p + rnn A B true p 255) 255] ++ pxl A (p + rnn A B true p 255) (rnn A B false (p + rnn A B true p 255) 255).toNat ++ enc A B (p + rnn A B true p 255 + rnn A B false (p + rnn A B true p 255) 255) q := by
      show (if p < 1536 then _ else _) = _
      rw [if_pos (by omega)]
    rw [ee] at c1
    have len : (m.length : Int) + 2 + (pxl A (p + rnn A B true p 255) (rnn A B false (p + rnn A B true p 255) 255).toNat).length ≤ 49264 := by
      have := congrArg (fun z : List Int => (z.length : Int)) c1
      rw [la2, la2, la2] at this
      have e2 : (([rnn A B true p 255, rnn A B false (p + rnn A B true p 255) 255] : List Int).length : Int) = 2 := rfl
      rw [e2] at this
      omega
    have CC := C.ef e1
    rw [k332_1]
    simp +decide (maxSteps := 4000000) (disch := omega) only [k332_0, k332_3, k332_5, k332_7, k332_8, k332_9, k332_10, k332_r, k332_s, T_I, F_is2i, F_is2r, F_is2m, T_ft, F_il2, T_icge, F_is3i, F_is3r, F_is3m, F_il3, F_al0, T_getR, F_il1, T_add, X_iald, J_icne, F_inc3i, F_inc3r, F_inc3m, F_inc2i, F_inc2r, F_inc2m, T_goto, F_is4i, F_is4r, F_is4m, F_il4, T_iceq, F_inc4i, F_inc4r, F_inc4m, F_is5i, F_is5r, F_is5m, F_il5, F_is6i, F_is6r, F_is6m, F_il6, T_shr, T_and, F_inc5i, F_inc5r, F_inc5m, T_ret, c233, show ¬ 1536 ≤ p by omega, ↓reduceIte, TK, lt_run hn, le43, Int.le_refl, Int.lt_irrefl, Option.some.injEq, exists_eq_left', true_and, and_true, if_true, if_false, decide_eq_false_iff_not, decide_eq_true_eq, Nat.reduceAdd, Nat.reduceLeDiff, Nat.reduceLT, Int.reduceAdd, Int.reduceSub, Int.reduceMul, Int.reduceNeg, not_true_eq_false, not_false_eq_true]
    have zs := z332s (E := E) (Q := Q) F hn ht CC R1 R2 p0 (v4 := v4) (v5 := v5) (v6 := v6) 255 0 (by decide) (by decide) (by omega)
    rw [Int.add_zero, Int.zero_add] at zs
    refine zs ?_
    rw [k332_3]
    simp +decide (maxSteps := 4000000) (disch := omega) only [k332_0, k332_3, k332_5, k332_7, k332_8, k332_9, k332_10, k332_r, k332_s, T_I, F_is2i, F_is2r, F_is2m, T_ft, F_il2, T_icge, F_is3i, F_is3r, F_is3m, F_il3, F_al0, T_getR, F_il1, T_add, X_iald, J_icne, F_inc3i, F_inc3r, F_inc3m, F_inc2i, F_inc2r, F_inc2m, T_goto, F_is4i, F_is4r, F_is4m, F_il4, T_iceq, F_inc4i, F_inc4r, F_inc4m, F_is5i, F_is5r, F_is5m, F_il5, F_is6i, F_is6r, F_is6m, F_il6, T_shr, T_and, F_inc5i, F_inc5r, F_inc5m, T_ret, c233, ↓reduceIte, TK, lt_run hn, le43, Int.le_refl, Int.lt_irrefl, Option.some.injEq, exists_eq_left', true_and, and_true, if_true, if_false, decide_eq_false_iff_not, decide_eq_true_eq, Nat.reduceAdd, Nat.reduceLeDiff, Nat.reduceLT, Int.reduceAdd, Int.reduceSub, Int.reduceMul, Int.reduceNeg, not_true_eq_false, not_false_eq_true]
    have zo := z332o (E := E) (Q := Q) F hn ht CC R1 R2 (p := p + rnn A B true p 255) (s := rnn A B true p 255) (by omega) (v5 := v5) (v6 := v6) 255 0 (by decide) (by decide) (by omega)
    rw [Int.add_zero, Int.zero_add] at zo
    refine zo ?_
    generalize hs : rnn A B true p 255 = s at *
    generalize ho : rnn A B false (p + s) 255 = o at *
    rw [k332_5]
    simp +decide (maxSteps := 4000000) (disch := omega) only [k332_0, k332_3, k332_5, k332_7, k332_8, k332_9, k332_10, k332_r, k332_s, T_I, F_is2i, F_is2r, F_is2m, T_ft, F_il2, T_icge, F_is3i, F_is3r, F_is3m, F_il3, F_al0, T_getR, F_il1, T_add, X_iald, J_icne, F_inc3i, F_inc3r, F_inc3m, F_inc2i, F_inc2r, F_inc2m, T_goto, F_is4i, F_is4r, F_is4m, F_il4, T_iceq, F_inc4i, F_inc4r, F_inc4m, F_is5i, F_is5r, F_is5m, F_il5, F_is6i, F_is6r, F_is6m, F_il6, T_shr, T_and, F_inc5i, F_inc5r, F_inc5m, T_ret, c233, ↓reduceIte, TK, lt_run hn, le43, Int.le_refl, Int.lt_irrefl, Option.some.injEq, exists_eq_left', true_and, and_true, if_true, if_false, decide_eq_false_iff_not, decide_eq_true_eq, Nat.reduceAdd, Nat.reduceLeDiff, Nat.reduceLT, Int.reduceAdd, Int.reduceSub, Int.reduceMul, Int.reduceNeg, not_true_eq_false, not_false_eq_true]
    refine w233 F hn C1 (by omega) (fun h2 C2 e2 => ?_)
    simp +decide (maxSteps := 4000000) (disch := omega) only [k332_0, k332_3, k332_5, k332_7, k332_8, k332_9, k332_10, k332_r, k332_s, T_I, F_is2i, F_is2r, F_is2m, T_ft, F_il2, T_icge, F_is3i, F_is3r, F_is3m, F_il3, F_al0, T_getR, F_il1, T_add, X_iald, J_icne, F_inc3i, F_inc3r, F_inc3m, F_inc2i, F_inc2r, F_inc2m, T_goto, F_is4i, F_is4r, F_is4m, F_il4, T_iceq, F_inc4i, F_inc4r, F_inc4m, F_is5i, F_is5r, F_is5m, F_il5, F_is6i, F_is6r, F_is6m, F_il6, T_shr, T_and, F_inc5i, F_inc5r, F_inc5m, T_ret, c233, ↓reduceIte, TK, lt_run hn, le43, Int.le_refl, Int.lt_irrefl, Option.some.injEq, exists_eq_left', true_and, and_true, if_true, if_false, decide_eq_false_iff_not, decide_eq_true_eq, Nat.reduceAdd, Nat.reduceLeDiff, Nat.reduceLT, Int.reduceAdd, Int.reduceSub, Int.reduceMul, Int.reduceNeg, not_true_eq_false, not_false_eq_true]
    refine w233 F hn C2 (by rw [la1]; omega) (fun h3 C3 e3 => ?_)
    simp +decide (maxSteps := 4000000) (disch := omega) only [k332_0, k332_3, k332_5, k332_7, k332_8, k332_9, k332_10, k332_r, k332_s, T_I, F_is2i, F_is2r, F_is2m, T_ft, F_il2, T_icge, F_is3i, F_is3r, F_is3m, F_il3, F_al0, T_getR, F_il1, T_add, X_iald, J_icne, F_inc3i, F_inc3r, F_inc3m, F_inc2i, F_inc2r, F_inc2m, T_goto, F_is4i, F_is4r, F_is4m, F_il4, T_iceq, F_inc4i, F_inc4r, F_inc4m, F_is5i, F_is5r, F_is5m, F_il5, F_is6i, F_is6r, F_is6m, F_il6, T_shr, T_and, F_inc5i, F_inc5r, F_inc5m, T_ret, c233, ↓reduceIte, TK, lt_run hn, le43, Int.le_refl, Int.lt_irrefl, Option.some.injEq, exists_eq_left', true_and, and_true, if_true, if_false, decide_eq_false_iff_not, decide_eq_true_eq, Nat.reduceAdd, Nat.reduceLeDiff, Nat.reduceLT, Int.reduceAdd, Int.reduceSub, Int.reduceMul, Int.reduceNeg, not_true_eq_false, not_false_eq_true]
    have e3' : Ef Sv h h3 := (e1.trans e2).trans e3
    rw [List.append_assoc] at C3
    have pm : ∀ j : Int, 0 ≤ j → j ≤ o → (pxl A (p + s) j.toNat).length ≤ (pxl A (p + s) o.toNat).length := by
      have key : ∀ d j : Nat, (pxl A (p + s) j).length ≤ (pxl A (p + s) (j + d)).length := by
        intro d j
        induction d with
        | zero => exact Nat.le_refl _
        | succ d ih =>
          have : (pxl A (p + s) (j + (d + 1))).length = (pxl A (p + s) (j + d)).length + (pxB (A (p + s + ((j + d : Nat) : Int)))).length := List.length_append
          omega
      intro j j0 j1
      have := key (o.toNat - j.toNat) j.toNat
      rw [show j.toNat + (o.toNat - j.toNat) = o.toNat by omega] at this
      exact this
    have lq := T_for (E := E) (m := 332) (L := 6) (hr := hr) (n := n) (Q := Q) (σ := Value) (fun j v => [.ref 704, .int (J (1536 * t)), .int (J (p + s + j)), .int (J s), .int (J o), .int (J j), v]) (fun j _ h' => Ef Sv h h' ∧ OM h' (m ++ [s, o] ++ pxl A (p + s) j.toNat)) 0 o ?_ ?_ 0 v6 h3 (by omega) (by omega) ⟨e3', by rw [show pxl A (p + s) (0 : Int).toNat = [] from rfl, List.append_nil]; exact C3⟩
    · rw [Int.add_zero] at lq
      exact lq
    · rintro j v h4 j0 j1 ⟨e4, C4⟩ ihj
      have CD := C.ef e4
      have d1 := CD.1 (p + s + j) (by omega) (by omega)
      have r1 := R1 (p + s + j) (by omega) (by omega)
      have pj := pm (j + 1) (by omega) (by omega)
      rw [pxl_s j0, List.length_append] at pj
      have l4 : ((m ++ [s, o] ++ pxl A (p + s) j.toNat).length : Int) = m.length + 2 + (pxl A (p + s) j.toNat).length := by
        rw [la2, la2]
        rfl
      have ihj' := fun v h2 => ihj v h2
      rw [show p + s + (j + 1) = p + s + j + 1 by omega, pxl_s j0] at ihj'
      unfold pxB at ihj' pj
      by_cases w : A (p + s + j) = -1
      · rw [if_pos w] at ihj' pj
        have e1l : ([0] : List Int).length = 1 := rfl
        rw [e1l] at pj
        rw [k332_6]
        simp +decide (maxSteps := 4000000) (disch := omega) only [k332_0, k332_3, k332_5, k332_7, k332_8, k332_9, k332_10, k332_r, k332_s, T_I, F_is2i, F_is2r, F_is2m, T_ft, F_il2, T_icge, F_is3i, F_is3r, F_is3m, F_il3, F_al0, T_getR, F_il1, T_add, X_iald, J_icne, F_inc3i, F_inc3r, F_inc3m, F_inc2i, F_inc2r, F_inc2m, T_goto, F_is4i, F_is4r, F_is4m, F_il4, T_iceq, F_inc4i, F_inc4r, F_inc4m, F_is5i, F_is5r, F_is5m, F_il5, F_is6i, F_is6r, F_is6m, F_il6, T_shr, T_and, F_inc5i, F_inc5r, F_inc5m, T_ret, c233, FM F, d1, w, ln_768, show ¬ o ≤ j by omega, ↓reduceIte, TK, lt_run hn, le43, Int.le_refl, Int.lt_irrefl, Option.some.injEq, exists_eq_left', true_and, and_true, if_true, if_false, decide_eq_false_iff_not, decide_eq_true_eq, Nat.reduceAdd, Nat.reduceLeDiff, Nat.reduceLT, Int.reduceAdd, Int.reduceSub, Int.reduceMul, Int.reduceNeg, not_true_eq_false, not_false_eq_true]
        refine w233 F hn C4 (by rw [l4]; omega) (fun h5 C5 e5 => ?_)
        simp +decide (maxSteps := 4000000) (disch := omega) only [k332_0, k332_3, k332_5, k332_7, k332_8, k332_9, k332_10, k332_r, k332_s, T_I, F_is2i, F_is2r, F_is2m, T_ft, F_il2, T_icge, F_is3i, F_is3r, F_is3m, F_il3, F_al0, T_getR, F_il1, T_add, X_iald, J_icne, F_inc3i, F_inc3r, F_inc3m, F_inc2i, F_inc2r, F_inc2m, T_goto, F_is4i, F_is4r, F_is4m, F_il4, T_iceq, F_inc4i, F_inc4r, F_inc4m, F_is5i, F_is5r, F_is5m, F_il5, F_is6i, F_is6r, F_is6m, F_il6, T_shr, T_and, F_inc5i, F_inc5r, F_inc5m, T_ret, c233, ↓reduceIte, TK, lt_run hn, le43, Int.le_refl, Int.lt_irrefl, Option.some.injEq, exists_eq_left', true_and, and_true, if_true, if_false, decide_eq_false_iff_not, decide_eq_true_eq, Nat.reduceAdd, Nat.reduceLeDiff, Nat.reduceLT, Int.reduceAdd, Int.reduceSub, Int.reduceMul, Int.reduceNeg, not_true_eq_false, not_false_eq_true]
        refine ihj' _ _ ⟨e4.trans e5, ?_⟩
        rw [← List.append_assoc]
        exact C5
      · rw [if_neg w] at ihj' pj
        have e1l : ([1, A (p + s + j) / 65536, A (p + s + j) / 256 % 256, A (p + s + j) % 256] : List Int).length = 4 := rfl
        rw [e1l] at pj
        rw [k332_6]
        simp +decide (maxSteps := 4000000) (disch := omega) only [k332_0, k332_3, k332_5, k332_7, k332_8, k332_9, k332_10, k332_r, k332_s, T_I, F_is2i, F_is2r, F_is2m, T_ft, F_il2, T_icge, F_is3i, F_is3r, F_is3m, F_il3, F_al0, T_getR, F_il1, T_add, X_iald, J_icne, F_inc3i, F_inc3r, F_inc3m, F_inc2i, F_inc2r, F_inc2m, T_goto, F_is4i, F_is4r, F_is4m, F_il4, T_iceq, F_inc4i, F_inc4r, F_inc4m, F_is5i, F_is5r, F_is5m, F_il5, F_is6i, F_is6r, F_is6m, F_il6, T_shr, T_and, F_inc5i, F_inc5r, F_inc5m, T_ret, c233, FM F, d1, w, ln_768, show ¬ o ≤ j by omega, ↓reduceIte, TK, lt_run hn, le43, Int.le_refl, Int.lt_irrefl, Option.some.injEq, exists_eq_left', true_and, and_true, if_true, if_false, decide_eq_false_iff_not, decide_eq_true_eq, Nat.reduceAdd, Nat.reduceLeDiff, Nat.reduceLT, Int.reduceAdd, Int.reduceSub, Int.reduceMul, Int.reduceNeg, not_true_eq_false, not_false_eq_true]
        refine w233 F hn C4 (by rw [l4]; omega) (fun h5 C5 e5 => ?_)
        simp +decide (maxSteps := 4000000) (disch := omega) only [k332_0, k332_3, k332_5, k332_7, k332_8, k332_9, k332_10, k332_r, k332_s, T_I, F_is2i, F_is2r, F_is2m, T_ft, F_il2, T_icge, F_is3i, F_is3r, F_is3m, F_il3, F_al0, T_getR, F_il1, T_add, X_iald, J_icne, F_inc3i, F_inc3r, F_inc3m, F_inc2i, F_inc2r, F_inc2m, T_goto, F_is4i, F_is4r, F_is4m, F_il4, T_iceq, F_inc4i, F_inc4r, F_inc4m, F_is5i, F_is5r, F_is5m, F_il5, F_is6i, F_is6r, F_is6m, F_il6, T_shr, T_and, F_inc5i, F_inc5r, F_inc5m, T_ret, c233, sr16, ↓reduceIte, TK, lt_run hn, le43, Int.le_refl, Int.lt_irrefl, Option.some.injEq, exists_eq_left', true_and, and_true, if_true, if_false, decide_eq_false_iff_not, decide_eq_true_eq, Nat.reduceAdd, Nat.reduceLeDiff, Nat.reduceLT, Int.reduceAdd, Int.reduceSub, Int.reduceMul, Int.reduceNeg, not_true_eq_false, not_false_eq_true]
        refine w233 F hn C5 (by rw [la1, l4]; omega) (fun h6 C6 e6 => ?_)
        simp +decide (maxSteps := 4000000) (disch := omega) only [k332_0, k332_3, k332_5, k332_7, k332_8, k332_9, k332_10, k332_r, k332_s, T_I, F_is2i, F_is2r, F_is2m, T_ft, F_il2, T_icge, F_is3i, F_is3r, F_is3m, F_il3, F_al0, T_getR, F_il1, T_add, X_iald, J_icne, F_inc3i, F_inc3r, F_inc3m, F_inc2i, F_inc2r, F_inc2m, T_goto, F_is4i, F_is4r, F_is4m, F_il4, T_iceq, F_inc4i, F_inc4r, F_inc4m, F_is5i, F_is5r, F_is5m, F_il5, F_is6i, F_is6r, F_is6m, F_il6, T_shr, T_and, F_inc5i, F_inc5r, F_inc5m, T_ret, c233, sr8, an255, ↓reduceIte, TK, lt_run hn, le43, Int.le_refl, Int.lt_irrefl, Option.some.injEq, exists_eq_left', true_and, and_true, if_true, if_false, decide_eq_false_iff_not, decide_eq_true_eq, Nat.reduceAdd, Nat.reduceLeDiff, Nat.reduceLT, Int.reduceAdd, Int.reduceSub, Int.reduceMul, Int.reduceNeg, not_true_eq_false, not_false_eq_true]
        refine w233 F hn C6 (by rw [la1, la1, l4]; omega) (fun h7 C7 e7 => ?_)
        simp +decide (maxSteps := 4000000) (disch := omega) only [k332_0, k332_3, k332_5, k332_7, k332_8, k332_9, k332_10, k332_r, k332_s, T_I, F_is2i, F_is2r, F_is2m, T_ft, F_il2, T_icge, F_is3i, F_is3r, F_is3m, F_il3, F_al0, T_getR, F_il1, T_add, X_iald, J_icne, F_inc3i, F_inc3r, F_inc3m, F_inc2i, F_inc2r, F_inc2m, T_goto, F_is4i, F_is4r, F_is4m, F_il4, T_iceq, F_inc4i, F_inc4r, F_inc4m, F_is5i, F_is5r, F_is5m, F_il5, F_is6i, F_is6r, F_is6m, F_il6, T_shr, T_and, F_inc5i, F_inc5r, F_inc5m, T_ret, c233, an255, ↓reduceIte, TK, lt_run hn, le43, Int.le_refl, Int.lt_irrefl, Option.some.injEq, exists_eq_left', true_and, and_true, if_true, if_false, decide_eq_false_iff_not, decide_eq_true_eq, Nat.reduceAdd, Nat.reduceLeDiff, Nat.reduceLT, Int.reduceAdd, Int.reduceSub, Int.reduceMul, Int.reduceNeg, not_true_eq_false, not_false_eq_true]
        refine w233 F hn C7 (by rw [la1, la1, la1, l4]; omega) (fun h8 C8 e8 => ?_)
        simp +decide (maxSteps := 4000000) (disch := omega) only [k332_0, k332_3, k332_5, k332_7, k332_8, k332_9, k332_10, k332_r, k332_s, T_I, F_is2i, F_is2r, F_is2m, T_ft, F_il2, T_icge, F_is3i, F_is3r, F_is3m, F_il3, F_al0, T_getR, F_il1, T_add, X_iald, J_icne, F_inc3i, F_inc3r, F_inc3m, F_inc2i, F_inc2r, F_inc2m, T_goto, F_is4i, F_is4r, F_is4m, F_il4, T_iceq, F_inc4i, F_inc4r, F_inc4m, F_is5i, F_is5r, F_is5m, F_il5, F_is6i, F_is6r, F_is6m, F_il6, T_shr, T_and, F_inc5i, F_inc5r, F_inc5m, T_ret, c233, ↓reduceIte, TK, lt_run hn, le43, Int.le_refl, Int.lt_irrefl, Option.some.injEq, exists_eq_left', true_and, and_true, if_true, if_false, decide_eq_false_iff_not, decide_eq_true_eq, Nat.reduceAdd, Nat.reduceLeDiff, Nat.reduceLT, Int.reduceAdd, Int.reduceSub, Int.reduceMul, Int.reduceNeg, not_true_eq_false, not_false_eq_true]
        refine ihj' _ _ ⟨(((e4.trans e5).trans e6).trans e7).trans e8, ?_⟩
        rw [List.append_assoc _ [1], List.append_assoc, List.append_assoc] at C8
        rw [← List.append_assoc]
        exact C8
    · rintro v h4 ⟨e4, C4⟩
      rw [k332_6]
      simp +decide (maxSteps := 4000000) (disch := omega) only [k332_0, k332_3, k332_5, k332_7, k332_8, k332_9, k332_10, k332_r, k332_s, T_I, F_is2i, F_is2r, F_is2m, T_ft, F_il2, T_icge, F_is3i, F_is3r, F_is3m, F_il3, F_al0, T_getR, F_il1, T_add, X_iald, J_icne, F_inc3i, F_inc3r, F_inc3m, F_inc2i, F_inc2r, F_inc2m, T_goto, F_is4i, F_is4r, F_is4m, F_il4, T_iceq, F_inc4i, F_inc4r, F_inc4m, F_is5i, F_is5r, F_is5m, F_il5, F_is6i, F_is6r, F_is6m, F_il6, T_shr, T_and, F_inc5i, F_inc5r, F_inc5m, T_ret, c233, ↓reduceIte, TK, lt_run hn, le43, Int.le_refl, Int.lt_irrefl, Option.some.injEq, exists_eq_left', true_and, and_true, if_true, if_false, decide_eq_false_iff_not, decide_eq_true_eq, Nat.reduceAdd, Nat.reduceLeDiff, Nat.reduceLT, Int.reduceAdd, Int.reduceSub, Int.reduceMul, Int.reduceNeg, not_true_eq_false, not_false_eq_true]
      refine ih (p + s + o) h4 (m ++ [s, o] ++ pxl A (p + s) o.toNat) _ _ _ _ (by omega) (by omega) (by omega) e4 C4 ?_
      rw [← c1, List.append_assoc, List.append_assoc, List.append_assoc]
end FR1
