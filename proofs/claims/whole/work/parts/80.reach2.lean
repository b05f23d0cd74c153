/-! reach: the class's bones and the reference's, each for itself -/
def Bq (N : Int) (b : Int → Bn) (h : AHi) (hr : AHr) : Prop := (0 ≤ N ∧ N ≤ 10) ∧ (∀ i, 0 ≤ i → i < N → BnR i (b i)) ∧ (∀ i, 0 ≤ i → i < N → BnC h hr i (b i)) ∧ Rt h
def Bm (N : Int) (b : Int → Bn) (h : AHi) : Prop := (0 ≤ N ∧ N ≤ 10) ∧ (∀ i, 0 ≤ i → i < N → BnR i (b i)) ∧ h 704 50 = J N ∧ ∀ i, 0 ≤ i → i < N → BnM h i (b i)
section QM
variable {E : AEn} {h h' : AHi} {hr : AHr} {n : Nat} {Q : ARs → Prop} {N : Int} {b : Int → Bn} {g : Int → Int} {f : Int}
theorem Bw.q (C : Bw N b h hr) : Bq N b h hr := ⟨C.1, C.2.1, fun i i0 i1 => (C.2.2.2.1 i i0 i1).1, C.2.2.2.2.2⟩
theorem Bw.m (C : Bw N b h hr) : Bm N b h := ⟨C.1, C.2.1, C.2.2.1.2, fun i i0 i1 => (C.2.2.2.1 i i0 i1).2⟩
theorem Bq.v (F : FH hr) (C : Bq N b h hr) {i : Int} (i0 : -1 ≤ i) (i1 : i < N) : BV h hr (bid i) (bP b i) (bLo b i) (bHi b i) (bK b i) (fun d => bL b i (d + 8)) (bL b i) := by
  obtain ⟨c1, c2, c5, c7⟩ := C
  have B := bid_B i0 (show i < 10 by omega)
  by_cases e : i = -1
  · subst e
    obtain ⟨⟨a1, a2, a3⟩, a4⟩ := c7
    have b0 : bid (-1) = 99 := rfl
    have b1 : bP b (-1) = none := rfl
    have b2 : bLo b (-1) = 0 := rfl
    have b3 : bHi b (-1) = 0 := rfl
    have b4 : bK b (-1) = Kn0 := rfl
    have b5 : ∀ d, bL b (-1) d = 0 := fun d => rfl
    have h99 : hr 99 0 = none := (F 99 0 (by decide +kernel)).trans (show HR0 99 0 = none by decide +kernel)
    rw [b1, b2, b3, b4]
    rw [b0] at B ⊢
    refine ⟨B, h99, ⟨a1, a2⟩, ⟨a3, fun i i0 i1 => ?_⟩, Kn0_r, ⟨by decide, by decide, by decide⟩, fun d d0 d1 => ?_⟩
    · have : i < 0 := i1
      omega
    · dsimp only
      rw [b5, b5]
      exact ⟨a4 d d0 d1, ⟨by decide, by decide⟩, by decide, by decide⟩
  · obtain ⟨d1, ⟨d2, d3⟩, d4, d5⟩ := c5 i (by omega) i1
    obtain ⟨r1, r2, r3, r4, r5⟩ := c2 i (by omega) i1
    unfold bP bLo bHi bK bL
    rw [bid_p (show 0 ≤ i by omega)] at B ⊢
    rw [if_neg e, if_neg e, if_neg e, if_neg e]
    refine ⟨B, d1, ⟨d2, d3⟩, d4, r4.mono r3.1 r3.2.2, r3, fun d q0 q1 => ?_⟩
    dsimp only
    rw [if_neg e, if_neg e]
    exact ⟨d5 d q0 q1, lng_r r2 _, lng_r r2 _⟩
theorem w4q (F : FH hr) (hn : 775 ≤ n) (C : Bq N b h hr) {i : Int} (i0 : -1 ≤ i) (i1 : i < N) (hf : 0 ≤ f ∧ f ≤ 119) (k : Q (some (.int (J (dr b f i % 32))), h, hr, n)) : Sp E 4 [.ref (bid i), .int (J f)] h hr n Q := by
  have R := C.2.1
  have hN := C.1
  simp +decide (maxSteps := 4000000) (disch := omega) only [k4_0, k4_2, k4_3, k4_r, k4_s, T_I, F_is2i, F_is2r, F_is2m, F_al0, F_an0, F_as3i, F_as3r, F_as3m, F_is4i, F_is4r, F_is4m, T_ft, F_il4, T_icgt, F_il2, F_al3, F_an3, F_il1, T_add, T_getR, T_nnR, T_nnN, T_goto, F_inc4i, F_inc4r, F_inc4m, T_and, T_ret, c2, ↓s2, ↓reduceIte, TK, lt_run hn, le43, Int.le_refl, Int.lt_irrefl, Option.some.injEq, exists_eq_left', true_and, and_true, if_true, if_false, decide_eq_false_iff_not, decide_eq_true_eq, Nat.reduceAdd, Nat.reduceLeDiff, Nat.reduceLT, Int.reduceAdd, Int.reduceSub, Int.reduceMul, Int.reduceNeg, not_true_eq_false, not_false_eq_true]
  refine T_for (σ := Int × Int) (fun j s => [.ref (bid i), .int (J f), .int (J s.2), .ref (bid s.1), .int (J j)]) (fun j s h' => h' = h ∧ (-1 ≤ s.1 ∧ s.1 + j ≤ i) ∧ s.2 + dr b f s.1 = dr b f i) 0 11 ?_ ?_ 0 (i, 0) h (by omega) (by omega) ⟨rfl, ⟨i0, by dsimp only; omega⟩, by dsimp only; omega⟩
  · rintro j ⟨c, s⟩ h' j0 j1 ⟨rfl, ⟨y0, y1⟩, y2⟩ ih
    dsimp only at y0 y1 y2 ⊢
    have V := C.v F y0 (show c < N by omega)
    have S := fun Q => s2 (E := E) (Q := Q) F hn V hf
    have x1 := V.1.x E F
    have x2 := V.1.r
    have v1 := V.2.1
    have lt1 : bid c < n := by omega
    have ar := an_r R f y0 (show c < N by omega)
    have dr1 := dr_r R hN.2 (A := an b f) (fun i h1 h2 => an_r R f (by omega) h2) i0 i1
    have dr2 := dr_r R hN.2 (A := an b f) (fun i h1 h2 => an_r R f (by omega) h2) y0 (show c < N by omega)
    change ∀ Q, Sp E 2 [.ref (bid c), .int (J f)] h' hr n Q ↔ Q (some (.int (J (an b f c))), h', hr, n) at S
    rcases (show c = -1 ∨ 0 ≤ c by omega) with rfl | y3
    · rw [bP_n] at v1
      have e1 : s = dr b f i := by
        have : dr b f (-1) = 0 := rfl
        omega
      have e2 : an b f (-1) = 0 := rfl
      rw [e2] at S
      rw [k4_1]
      simp +decide (maxSteps := 4000000) (disch := omega) only [k4_0, k4_2, k4_3, k4_r, k4_s, T_I, F_is2i, F_is2r, F_is2m, F_al0, F_an0, F_as3i, F_as3r, F_as3m, F_is4i, F_is4r, F_is4m, T_ft, F_il4, T_icgt, F_il2, F_al3, F_an3, F_il1, T_add, T_getR, T_nnR, T_nnN, T_goto, F_inc4i, F_inc4r, F_inc4m, T_and, T_ret, c2, S, x1, x2, v1, lt1, aref_n, J_and31, Int.add_zero, show ¬ 10 < j by omega, ↓reduceIte, TK, lt_run hn, le43, Int.le_refl, Int.lt_irrefl, Option.some.injEq, exists_eq_left', true_and, and_true, if_true, if_false, decide_eq_false_iff_not, decide_eq_true_eq, Nat.reduceAdd, Nat.reduceLeDiff, Nat.reduceLT, Int.reduceAdd, Int.reduceSub, Int.reduceMul, Int.reduceNeg, not_true_eq_false, not_false_eq_true]
      rw [e1]
      exact k
    · rw [bP_s y3] at v1
      have r := (R c y3 (by omega)).1.1
      have ds : dr b f c = an b f c + dr b f (b c).1 := cS_s R y3 (by omega)
      have bl := bid_le (b c).1
      rw [k4_1]
      simp +decide (maxSteps := 4000000) (disch := omega) only [k4_0, k4_2, k4_3, k4_r, k4_s, T_I, F_is2i, F_is2r, F_is2m, F_al0, F_an0, F_as3i, F_as3r, F_as3m, F_is4i, F_is4r, F_is4m, T_ft, F_il4, T_icgt, F_il2, F_al3, F_an3, F_il1, T_add, T_getR, T_nnR, T_nnN, T_goto, F_inc4i, F_inc4r, F_inc4m, T_and, T_ret, c2, S, x1, x2, v1, lt1, bl, show ¬ 10 < j by omega, ↓reduceIte, TK, lt_run hn, le43, Int.le_refl, Int.lt_irrefl, Option.some.injEq, exists_eq_left', true_and, and_true, if_true, if_false, decide_eq_false_iff_not, decide_eq_true_eq, Nat.reduceAdd, Nat.reduceLeDiff, Nat.reduceLT, Int.reduceAdd, Int.reduceSub, Int.reduceMul, Int.reduceNeg, not_true_eq_false, not_false_eq_true]
      exact ih ((b c).1, s + an b f c) _ ⟨rfl, ⟨r.1, by dsimp only; omega⟩, by dsimp only; omega⟩
  · rintro ⟨c, s⟩ h' ⟨rfl, ⟨y0, y1⟩, y2⟩
    dsimp only at y0 y1
    omega
theorem w3q (F : FH hr) (hn : 775 ≤ n) (C : Bq N b h hr) {i a : Int} (ha : a = 0 ∨ a = 1) (i0 : -1 ≤ i) (i1 : i < N) (hf : 0 ≤ f ∧ f ≤ 119) (k : Q (some (.int (J (eE b (an b f) (if a = 0 then 8 else 0) i))), h, hr, n)) : Sp E 3 [.ref (bid i), .int (J f), .int (J a)] h hr n Q := by
  have R := C.2.1
  have hN := C.1
  have V0 := C.v F i0 i1
  have z1 := V0.1.x E F
  have z2 := V0.1.r
  have lt0 : bid i < n := by omega
  simp +decide (maxSteps := 4000000) (disch := omega) only [k3_0, k3_2, k3_3, k3_4, k3_5, k3_r, k3_s, F_al0, F_an0, F_il1, F_is3i, F_is3r, F_is3m, T_I, F_is4i, F_is4r, F_is4m, F_as5i, F_as5r, F_as5m, F_is6i, F_is6r, F_is6m, T_ft, F_il6, T_icgt, F_il4, F_il2, J_ifne, F_al5, F_an5, T_getR, F_il3, X_iald, T_goto, T_add, T_sub, T_and, T_nnR, T_nnN, F_inc6i, F_inc6r, F_inc6m, T_ret, c2, c4, ↓s2, z1, lt0, ↓reduceIte, TK, lt_run hn, le43, Int.le_refl, Int.lt_irrefl, Option.some.injEq, exists_eq_left', true_and, and_true, if_true, if_false, decide_eq_false_iff_not, decide_eq_true_eq, Nat.reduceAdd, Nat.reduceLeDiff, Nat.reduceLT, Int.reduceAdd, Int.reduceSub, Int.reduceMul, Int.reduceNeg, not_true_eq_false, not_false_eq_true]
  refine w4q F hn C i0 i1 hf ?_
  simp +decide (maxSteps := 4000000) (disch := omega) only [k3_0, k3_2, k3_3, k3_4, k3_5, k3_r, k3_s, F_al0, F_an0, F_il1, F_is3i, F_is3r, F_is3m, T_I, F_is4i, F_is4r, F_is4m, F_as5i, F_as5r, F_as5m, F_is6i, F_is6r, F_is6m, T_ft, F_il6, T_icgt, F_il4, F_il2, J_ifne, F_al5, F_an5, T_getR, F_il3, X_iald, T_goto, T_add, T_sub, T_and, T_nnR, T_nnN, F_inc6i, F_inc6r, F_inc6m, T_ret, c2, c4, ↓s2, ↓reduceIte, TK, lt_run hn, le43, Int.le_refl, Int.lt_irrefl, Option.some.injEq, exists_eq_left', true_and, and_true, if_true, if_false, decide_eq_false_iff_not, decide_eq_true_eq, Nat.reduceAdd, Nat.reduceLeDiff, Nat.reduceLT, Int.reduceAdd, Int.reduceSub, Int.reduceMul, Int.reduceNeg, not_true_eq_false, not_false_eq_true]
  refine T_for (σ := Int × Int × Int) (fun j s => [.ref (bid i), .int (J f), .int (J a), .int (J s.2.1), .int (J s.2.2), .ref (bid s.1), .int (J j)]) (fun j s h' => h' = h ∧ (-1 ≤ s.1 ∧ s.1 + j ≤ i) ∧ s.2.1 = dr b f s.1 % 32 ∧ s.2.2 + eE b (an b f) (if a = 0 then 8 else 0) s.1 = eE b (an b f) (if a = 0 then 8 else 0) i) 0 11 ?_ ?_ 0 (i, dr b f i % 32, 0) h (by omega) (by omega) ⟨rfl, ⟨i0, by dsimp only; omega⟩, rfl, by dsimp only; omega⟩
  · rintro j ⟨c, d, s⟩ h' j0 j1 ⟨rfl, ⟨y0, y1⟩, y2, y3⟩ ih
    dsimp only at y0 y1 y2 y3 ⊢
    have V := C.v F y0 (show c < N by omega)
    have S := fun Q => s2 (E := E) (Q := Q) F hn V hf
    have x1 := V.1.x E F
    have x2 := V.1.r
    have v1 := V.2.1
    have v2 := V.2.2.2.2.2.2 d (by omega) (by omega)
    have lt1 : bid c < n := by omega
    have ar := an_r R f y0 (show c < N by omega)
    change ∀ Q, Sp E 2 [.ref (bid c), .int (J f)] h' hr n Q ↔ Q (some (.int (J (an b f c))), h', hr, n) at S
    obtain ⟨w, hw1, hw2⟩ : ∃ w, w = bL b c (cS b (an b f) c + if a = 0 then 8 else 0) ∧ (-41 ≤ w ∧ w ≤ 41) := ⟨_, rfl, bL_r R (by omega) y0 _⟩
    have q1 : a = 0 → gA h' (bid c + 4) d = J w := fun z => by
      rw [v2.1.1, hw1, if_pos z]
      exact congrArg J (bL_m c (by rw [y2]; unfold dr; omega))
    have q2 : a = 1 → gA h' (bid c + 5) d = J w := fun z => by
      rw [v2.1.2, hw1, if_neg (by omega)]
      exact congrArg J (bL_m c (by rw [y2]; unfold dr; omega))
    rcases (show c = -1 ∨ 0 ≤ c by omega) with rfl | y4
    · rw [bP_n] at v1
      have e2 : an b f (-1) = 0 := rfl
      have e3 : w = 0 := hw1
      have e4 : eE b (an b f) (if a = 0 then 8 else 0) (-1) = 0 := rfl
      rw [e2] at S
      rw [e3] at q1 q2
      rw [e4] at y3
      rcases ha with rfl | rfl
      · rw [k3_1]
        simp +decide (maxSteps := 4000000) (disch := omega) only [k3_0, k3_2, k3_3, k3_4, k3_5, k3_r, k3_s, F_al0, F_an0, F_il1, F_is3i, F_is3r, F_is3m, T_I, F_is4i, F_is4r, F_is4m, F_as5i, F_as5r, F_as5m, F_is6i, F_is6r, F_is6m, T_ft, F_il6, T_icgt, F_il4, F_il2, J_ifne, F_al5, F_an5, T_getR, F_il3, X_iald, T_goto, T_add, T_sub, T_and, T_nnR, T_nnN, F_inc6i, F_inc6r, F_inc6m, T_ret, c2, c4, S, x1, x2, v1, q1 rfl, lt1, aref_n, J_and31, Int.add_zero, show ¬ 10 < j by omega, ↓reduceIte, TK, lt_run hn, le43, Int.le_refl, Int.lt_irrefl, Option.some.injEq, exists_eq_left', true_and, and_true, if_true, if_false, decide_eq_false_iff_not, decide_eq_true_eq, Nat.reduceAdd, Nat.reduceLeDiff, Nat.reduceLT, Int.reduceAdd, Int.reduceSub, Int.reduceMul, Int.reduceNeg, not_true_eq_false, not_false_eq_true]
        rw [show s = eE b (an b f) (if (0 : Int) = 0 then 8 else 0) i by omega]
        exact k
      · rw [k3_1]
        simp +decide (maxSteps := 4000000) (disch := omega) only [k3_0, k3_2, k3_3, k3_4, k3_5, k3_r, k3_s, F_al0, F_an0, F_il1, F_is3i, F_is3r, F_is3m, T_I, F_is4i, F_is4r, F_is4m, F_as5i, F_as5r, F_as5m, F_is6i, F_is6r, F_is6m, T_ft, F_il6, T_icgt, F_il4, F_il2, J_ifne, F_al5, F_an5, T_getR, F_il3, X_iald, T_goto, T_add, T_sub, T_and, T_nnR, T_nnN, F_inc6i, F_inc6r, F_inc6m, T_ret, c2, c4, S, x1, x2, v1, q2 rfl, lt1, aref_n, J_and31, Int.add_zero, show ¬ 10 < j by omega, ↓reduceIte, TK, lt_run hn, le43, Int.le_refl, Int.lt_irrefl, Option.some.injEq, exists_eq_left', true_and, and_true, if_true, if_false, decide_eq_false_iff_not, decide_eq_true_eq, Nat.reduceAdd, Nat.reduceLeDiff, Nat.reduceLT, Int.reduceAdd, Int.reduceSub, Int.reduceMul, Int.reduceNeg, not_true_eq_false, not_false_eq_true]
        rw [show s = eE b (an b f) (if (1 : Int) = 0 then 8 else 0) i by omega]
        exact k
    · rw [bP_s y4] at v1
      have r := (R c y4 (by omega)).1.1
      have ds : dr b f c = an b f c + dr b f (b c).1 := cS_s R y4 (by omega)
      have es : eE b (an b f) (if a = 0 then 8 else 0) c = w + eE b (an b f) (if a = 0 then 8 else 0) (b c).1 := by
        rw [hw1]
        exact cS_s R y4 (by omega)
      have bl := bid_le (b c).1
      rcases ha with rfl | rfl
      · rw [k3_1]
        simp +decide (maxSteps := 4000000) (disch := omega) only [k3_0, k3_2, k3_3, k3_4, k3_5, k3_r, k3_s, F_al0, F_an0, F_il1, F_is3i, F_is3r, F_is3m, T_I, F_is4i, F_is4r, F_is4m, F_as5i, F_as5r, F_as5m, F_is6i, F_is6r, F_is6m, T_ft, F_il6, T_icgt, F_il4, F_il2, J_ifne, F_al5, F_an5, T_getR, F_il3, X_iald, T_goto, T_add, T_sub, T_and, T_nnR, T_nnN, F_inc6i, F_inc6r, F_inc6m, T_ret, c2, c4, S, x1, x2, v1, q1 rfl, lt1, bl, J_and31, show ¬ 10 < j by omega, ↓reduceIte, TK, lt_run hn, le43, Int.le_refl, Int.lt_irrefl, Option.some.injEq, exists_eq_left', true_and, and_true, if_true, if_false, decide_eq_false_iff_not, decide_eq_true_eq, Nat.reduceAdd, Nat.reduceLeDiff, Nat.reduceLT, Int.reduceAdd, Int.reduceSub, Int.reduceMul, Int.reduceNeg, not_true_eq_false, not_false_eq_true]
        exact ih ((b c).1, (d - an b f c) % 32, s + w) _ ⟨rfl, ⟨r.1, by dsimp only; omega⟩, by dsimp only; omega, by dsimp only; omega⟩
      · rw [k3_1]
        simp +decide (maxSteps := 4000000) (disch := omega) only [k3_0, k3_2, k3_3, k3_4, k3_5, k3_r, k3_s, F_al0, F_an0, F_il1, F_is3i, F_is3r, F_is3m, T_I, F_is4i, F_is4r, F_is4m, F_as5i, F_as5r, F_as5m, F_is6i, F_is6r, F_is6m, T_ft, F_il6, T_icgt, F_il4, F_il2, J_ifne, F_al5, F_an5, T_getR, F_il3, X_iald, T_goto, T_add, T_sub, T_and, T_nnR, T_nnN, F_inc6i, F_inc6r, F_inc6m, T_ret, c2, c4, S, x1, x2, v1, q2 rfl, lt1, bl, J_and31, show ¬ 10 < j by omega, ↓reduceIte, TK, lt_run hn, le43, Int.le_refl, Int.lt_irrefl, Option.some.injEq, exists_eq_left', true_and, and_true, if_true, if_false, decide_eq_false_iff_not, decide_eq_true_eq, Nat.reduceAdd, Nat.reduceLeDiff, Nat.reduceLT, Int.reduceAdd, Int.reduceSub, Int.reduceMul, Int.reduceNeg, not_true_eq_false, not_false_eq_true]
        exact ih ((b c).1, (d - an b f c) % 32, s + w) _ ⟨rfl, ⟨r.1, by dsimp only; omega⟩, by dsimp only; omega, by dsimp only; omega⟩
  · rintro ⟨c, d, s⟩ h' ⟨rfl, ⟨y0, y1⟩, y2, y3⟩
    dsimp only at y0 y1
    omega
theorem w294m (F : FH hr) (hn : 775 ≤ n) (C : Bm N b h) (hf : 0 ≤ f ∧ f ≤ 119) (k : ∀ h', (∀ i, 0 ≤ i → i < N → gA h' 749 i = J (an b f i)) → Ef (fun a _ => a = 749) h h' → Q (none, h', hr, n)) : Sp E 294 [.ref 704, .int (J f)] h hr n Q := by
  have R := C.2.1
  have hN := C.1
  simp +decide (maxSteps := 4000000) (disch := omega) only [k294_0, k294_2, k294_r, k294_s, T_I, F_is2i, F_is2r, F_is2m, T_ft, F_il2, F_al0, T_getI, T_icge, T_getR, F_il1, T_iast, F_inc2i, F_inc2r, F_inc2m, T_goto, T_ret, c291, ↓reduceIte, TK, lt_run hn, le43, Int.le_refl, Int.lt_irrefl, Option.some.injEq, exists_eq_left', true_and, and_true, if_true, if_false, decide_eq_false_iff_not, decide_eq_true_eq, Nat.reduceAdd, Nat.reduceLeDiff, Nat.reduceLT, Int.reduceAdd, Int.reduceSub, Int.reduceMul, Int.reduceNeg, not_true_eq_false, not_false_eq_true]
  refine T_for (σ := Unit) (fun j _ => [.ref 704, .int (J f), .int (J j)]) (fun j _ h' => Ef (fun a _ => a = 749) h h' ∧ ∀ i, 0 ≤ i → i < j → gA h' 749 i = J (an b f i)) 0 N ?_ ?_ 0 () h (by omega) (by omega) ⟨Ef.refl, fun i _ _ => by omega⟩
  · rintro j _ h1 j0 j1 ⟨e1, c1⟩ ih
    have d1 : h1 704 50 = J N := by
      rw [e1 704 50 (by decide)]
      exact C.2.2.1
    rw [k294_1]
    simp +decide (maxSteps := 4000000) (disch := omega) only [k294_0, k294_2, k294_r, k294_s, T_I, F_is2i, F_is2r, F_is2m, T_ft, F_il2, F_al0, T_getI, T_icge, T_getR, F_il1, T_iast, F_inc2i, F_inc2r, F_inc2m, T_goto, T_ret, c291, FM F, d1, show ¬ N ≤ j by omega, ↓reduceIte, TK, lt_run hn, le43, Int.le_refl, Int.lt_irrefl, Option.some.injEq, exists_eq_left', true_and, and_true, if_true, if_false, decide_eq_false_iff_not, decide_eq_true_eq, Nat.reduceAdd, Nat.reduceLeDiff, Nat.reduceLT, Int.reduceAdd, Int.reduceSub, Int.reduceMul, Int.reduceNeg, not_true_eq_false, not_false_eq_true]
    refine w291 F hn j0 (by omega) (R j j0 j1) ((C.2.2.2 j j0 j1).ef e1 (fun x k h1 h2 q => by omega)) hf ?_
    simp +decide (maxSteps := 4000000) (disch := omega) only [k294_0, k294_2, k294_r, k294_s, T_I, F_is2i, F_is2r, F_is2m, T_ft, F_il2, F_al0, T_getI, T_icge, T_getR, F_il1, T_iast, F_inc2i, F_inc2r, F_inc2m, T_goto, T_ret, c291, FM F, ln_749, ↓reduceIte, TK, lt_run hn, le43, Int.le_refl, Int.lt_irrefl, Option.some.injEq, exists_eq_left', true_and, and_true, if_true, if_false, decide_eq_false_iff_not, decide_eq_true_eq, Nat.reduceAdd, Nat.reduceLeDiff, Nat.reduceLT, Int.reduceAdd, Int.reduceSub, Int.reduceMul, Int.reduceNeg, not_true_eq_false, not_false_eq_true]
    refine ih () _ ⟨e1.sA rfl, fun i i0 i1 => ?_⟩
    by_cases e : i = j
    · rw [e, gs_s]
    · rw [gs_k j0 i0 e]
      exact c1 i i0 (by omega)
  · rintro _ h1 ⟨e1, c1⟩
    have d1 : h1 704 50 = J N := by
      rw [e1 704 50 (by decide)]
      exact C.2.2.1
    rw [k294_1]
    simp +decide (maxSteps := 4000000) (disch := omega) only [k294_0, k294_2, k294_r, k294_s, T_I, F_is2i, F_is2r, F_is2m, T_ft, F_il2, F_al0, T_getI, T_icge, T_getR, F_il1, T_iast, F_inc2i, F_inc2r, F_inc2m, T_goto, T_ret, c291, FM F, d1, ↓reduceIte, TK, lt_run hn, le43, Int.le_refl, Int.lt_irrefl, Option.some.injEq, exists_eq_left', true_and, and_true, if_true, if_false, decide_eq_false_iff_not, decide_eq_true_eq, Nat.reduceAdd, Nat.reduceLeDiff, Nat.reduceLT, Int.reduceAdd, Int.reduceSub, Int.reduceMul, Int.reduceNeg, not_true_eq_false, not_false_eq_true]
    exact k h1 c1 e1
theorem z295m (F : FH hr) (hn : 775 ≤ n) (C : Bm N b h) {A : Int → Int} (hA : ∀ i, 0 ≤ i → i < N → gA h 749 i = J (A i) ∧ 0 ≤ A i ∧ A i ≤ 31) {i x y c : Int} (c0 : 0 ≤ c) (c1 : c < N)
    (k : Tm E 295 (a_bl 295 3) [.ref 704, .int (J i), .int (J x), .int (J y), .int (J c), .int (J (cS b A c)), .int (J (-1))] [] h hr n Q) :
    Tm E 295 (a_bl 295 2) [.ref 704, .int (J i), .int (J x), .int (J y), .int (J c), .int (J 0), .int (J c)] [] h hr n Q := by
  have R := C.2.1
  have hN := C.1
  refine T_wh (σ := Int × Int) (fun s => [.ref 704, .int (J i), .int (J x), .int (J y), .int (J c), .int (J s.2), .int (J s.1)]) (fun s h' => h' = h ∧ (-1 ≤ s.1 ∧ s.1 < N) ∧ s.2 + cS b A s.1 = cS b A c) (fun s _ => (s.1 + 1).toNat) ?_ (c, 0) h ⟨rfl, ⟨by dsimp only; omega, c1⟩, by dsimp only; omega⟩
  rintro ⟨m, d⟩ h' ⟨rfl, ⟨m0, m1⟩, m2⟩ ih
  dsimp only at m0 m1 m2 ⊢
  rcases (show m = -1 ∨ 0 ≤ m by omega) with rfl | m3
  · rw [cS_n] at m2
    rw [show d = cS b A c by omega]
    rw [k295_2]
    simp +decide (maxSteps := 4000000) (disch := omega) only [k295_0, k295_4, k295_r, k295_s, F_al0, T_getI, F_is2i, F_is2r, F_is2m, F_is3i, F_is3r, F_is3m, F_il1, F_is4i, F_is4r, F_is4m, T_ft, F_il4, J_iflt, T_I, F_is5i, F_is5r, F_is5m, F_is6i, F_is6r, F_is6m, F_il6, F_il5, T_getR, X_iald, T_add, T_goto, F_il2, T_i2l, T_mulL, T_L, F_il3, T_putI, T_putZ, T_ret, c243, c296, ↓s243, ↓s296, FM F, ↓reduceIte, TK, lt_run hn, le43, Int.le_refl, Int.lt_irrefl, Option.some.injEq, exists_eq_left', true_and, and_true, if_true, if_false, decide_eq_false_iff_not, decide_eq_true_eq, Nat.reduceAdd, Nat.reduceLeDiff, Nat.reduceLT, Int.reduceAdd, Int.reduceSub, Int.reduceMul, Int.reduceNeg, not_true_eq_false, not_false_eq_true]
    exact k
  · have a1 := hA m m3 m1
    have p1 := (C.2.2.2 m m3 m1).1.1
    have r := (R m m3 m1).1.1
    have cs := cS_s (g := A) R m3 m1
    rw [k295_2]
    simp +decide (maxSteps := 4000000) (disch := omega) only [k295_0, k295_3, k295_4, k295_r, k295_s, F_al0, T_getI, F_is2i, F_is2r, F_is2m, F_is3i, F_is3r, F_is3m, F_il1, F_is4i, F_is4r, F_is4m, T_ft, F_il4, J_iflt, T_I, F_is5i, F_is5r, F_is5m, F_is6i, F_is6r, F_is6m, F_il6, F_il5, T_getR, X_iald, T_add, T_goto, F_il2, T_i2l, T_mulL, T_L, F_il3, T_putI, T_putZ, T_ret, c243, c296, ↓s243, ↓s296, FM F, ln_749, ln_742, a1.1, p1, show ¬ m < 0 by omega, ↓reduceIte, TK, lt_run hn, le43, Int.le_refl, Int.lt_irrefl, Option.some.injEq, exists_eq_left', true_and, and_true, if_true, if_false, decide_eq_false_iff_not, decide_eq_true_eq, Nat.reduceAdd, Nat.reduceLeDiff, Nat.reduceLT, Int.reduceAdd, Int.reduceSub, Int.reduceMul, Int.reduceNeg, not_true_eq_false, not_false_eq_true]
    exact ih ((b m).1, d + A m) _ ⟨rfl, ⟨r.1, by dsimp only; omega⟩, by dsimp only; omega⟩ (by dsimp only; omega)
theorem w295m (F : FH hr) (hn : 775 ≤ n) (C : Bm N b h) {A : Int → Int} (hA : ∀ i, 0 ≤ i → i < N → gA h 749 i = J (A i) ∧ 0 ≤ A i ∧ A i ≤ 31) {i x y : Int} (hx : -400 ≤ x ∧ x ≤ 400) (hy : -400 ≤ y ∧ y ≤ 400) (px : h 704 51 = J x) (py : h 704 52 = J y) (i0 : 0 ≤ i) (i1 : i < N)
    (k : Q (none, hI (hI h 704 61 (J (x + eE b A 8 i))) 704 62 (J (y + eE b A 0 i)), hr, n)) : Sp E 295 [.ref 704, .int (J i)] h hr n Q := by
  have R := C.2.1
  have hN := C.1
  simp +decide (maxSteps := 4000000) (disch := omega) only [k295_0, k295_3, k295_4, k295_r, k295_s, F_al0, T_getI, F_is2i, F_is2r, F_is2m, F_is3i, F_is3r, F_is3m, F_il1, F_is4i, F_is4r, F_is4m, T_ft, F_il4, J_iflt, T_I, F_is5i, F_is5r, F_is5m, F_is6i, F_is6r, F_is6m, F_il6, F_il5, T_getR, X_iald, T_add, T_goto, F_il2, T_i2l, T_mulL, T_L, F_il3, T_putI, T_putZ, T_ret, c243, c296, ↓s243, ↓s296, FM F, px, py, ↓reduceIte, TK, lt_run hn, le43, Int.le_refl, Int.lt_irrefl, Option.some.injEq, exists_eq_left', true_and, and_true, if_true, if_false, decide_eq_false_iff_not, decide_eq_true_eq, Nat.reduceAdd, Nat.reduceLeDiff, Nat.reduceLT, Int.reduceAdd, Int.reduceSub, Int.reduceMul, Int.reduceNeg, not_true_eq_false, not_false_eq_true]
  refine T_wh (σ := Int × Int × Int × Value × Value) (fun s => [.ref 704, .int (J i), .int (J s.2.1), .int (J s.2.2.1), .int (J s.1), s.2.2.2.1, s.2.2.2.2]) (fun s h' => h' = h ∧ (-1 ≤ s.1 ∧ s.1 < N) ∧ s.2.1 + eE b A 8 s.1 = x + eE b A 8 i ∧ s.2.2.1 + eE b A 0 s.1 = y + eE b A 0 i) (fun s _ => (s.1 + 1).toNat) ?_ (i, x, y, a_mk, a_mk) h ⟨rfl, ⟨by dsimp only; omega, i1⟩, rfl, rfl⟩
  rintro ⟨c, u, v, v5, v6⟩ h' ⟨rfl, ⟨c0, c1⟩, c2, c3⟩ ih
  dsimp only at c0 c1 c2 c3 ⊢
  rcases (show c = -1 ∨ 0 ≤ c by omega) with rfl | c4
  · have e1 : eE b A 8 (-1) = 0 := rfl
    have e2 : eE b A 0 (-1) = 0 := rfl
    rw [show u = x + eE b A 8 i by omega, show v = y + eE b A 0 i by omega]
    rw [k295_1]
    simp +decide (maxSteps := 4000000) (disch := omega) only [k295_0, k295_3, k295_4, k295_r, k295_s, F_al0, T_getI, F_is2i, F_is2r, F_is2m, F_is3i, F_is3r, F_is3m, F_il1, F_is4i, F_is4r, F_is4m, T_ft, F_il4, J_iflt, T_I, F_is5i, F_is5r, F_is5m, F_is6i, F_is6r, F_is6m, F_il6, F_il5, T_getR, X_iald, T_add, T_goto, F_il2, T_i2l, T_mulL, T_L, F_il3, T_putI, T_putZ, T_ret, c243, c296, ↓s243, ↓s296, FM F, kd_704, ↓reduceIte, TK, lt_run hn, le43, Int.le_refl, Int.lt_irrefl, Option.some.injEq, exists_eq_left', true_and, and_true, if_true, if_false, decide_eq_false_iff_not, decide_eq_true_eq, Nat.reduceAdd, Nat.reduceLeDiff, Nat.reduceLT, Int.reduceAdd, Int.reduceSub, Int.reduceMul, Int.reduceNeg, not_true_eq_false, not_false_eq_true]
    exact k
  · have g1 := (C.2.2.2 c c4 c1).1
    obtain ⟨r1, r2, r3⟩ := R c c4 c1
    have dd := dr_r R hN.2 (fun i h1 h2 => (hA i h1 h2).2) (i := c) (by omega) c1
    have t1 := sn_r (cS b A c + 8)
    have t2 := sn_r (cS b A c)
    have m1 := mulb (a := (b c).2.1) (b := sn (cS b A c + 8)) (A := 40) (B := 1024) (by omega) (by omega)
    have m2 := mulb (a := (b c).2.1) (b := sn (cS b A c)) (A := 40) (B := 1024) (by omega) (by omega)
    have ex : eE b A 8 c = rd ((b c).2.1 * sn (cS b A c + 8)) 1024 + eE b A 8 (b c).1 := by
      have := cS_s (g := fun k => bL b k (cS b A k + 8)) R c4 c1
      have e : bL b c (cS b A c + 8) = rd ((b c).2.1 * sn (cS b A c + 8)) 1024 := if_neg (by omega)
      rw [← e]
      exact this
    have ey : eE b A 0 c = rd ((b c).2.1 * sn (cS b A c)) 1024 + eE b A 0 (b c).1 := by
      have := cS_s (g := fun k => bL b k (cS b A k + 0)) R c4 c1
      have e : bL b c (cS b A c + 0) = rd ((b c).2.1 * sn (cS b A c)) 1024 := by rw [Int.add_zero]; exact if_neg (by omega)
      rw [← e]
      exact this
    rw [k295_1]
    simp +decide (maxSteps := 4000000) (disch := omega) only [k295_0, k295_3, k295_4, k295_r, k295_s, F_al0, T_getI, F_is2i, F_is2r, F_is2m, F_is3i, F_is3r, F_is3m, F_il1, F_is4i, F_is4r, F_is4m, T_ft, F_il4, J_iflt, T_I, F_is5i, F_is5r, F_is5m, F_is6i, F_is6r, F_is6m, F_il6, F_il5, T_getR, X_iald, T_add, T_goto, F_il2, T_i2l, T_mulL, T_L, F_il3, T_putI, T_putZ, T_ret, c243, c296, ↓s243, ↓s296, FM F, show ¬ c < 0 by omega, ↓reduceIte, TK, lt_run hn, le43, Int.le_refl, Int.lt_irrefl, Option.some.injEq, exists_eq_left', true_and, and_true, if_true, if_false, decide_eq_false_iff_not, decide_eq_true_eq, Nat.reduceAdd, Nat.reduceLeDiff, Nat.reduceLT, Int.reduceAdd, Int.reduceSub, Int.reduceMul, Int.reduceNeg, not_true_eq_false, not_false_eq_true]
    refine z295m F hn C hA c4 c1 ?_
    simp +decide (maxSteps := 4000000) (disch := omega) only [k295_0, k295_3, k295_4, k295_r, k295_s, F_al0, T_getI, F_is2i, F_is2r, F_is2m, F_is3i, F_is3r, F_is3m, F_il1, F_is4i, F_is4r, F_is4m, T_ft, F_il4, J_iflt, T_I, F_is5i, F_is5r, F_is5m, F_is6i, F_is6r, F_is6m, F_il6, F_il5, T_getR, X_iald, T_add, T_goto, F_il2, T_i2l, T_mulL, T_L, F_il3, T_putI, T_putZ, T_ret, c243, c296, ↓s243, FM F, g1.1, g1.2.1, ln_742, ln_743, ↓s296 hn, J_l, ↓reduceIte, TK, lt_run hn, le43, Int.le_refl, Int.lt_irrefl, Option.some.injEq, exists_eq_left', true_and, and_true, if_true, if_false, decide_eq_false_iff_not, decide_eq_true_eq, Nat.reduceAdd, Nat.reduceLeDiff, Nat.reduceLT, Int.reduceAdd, Int.reduceSub, Int.reduceMul, Int.reduceNeg, not_true_eq_false, not_false_eq_true]
    exact ih ((b c).1, _, _, _, _) _ ⟨rfl, ⟨r1.1.1, by dsimp only; omega⟩, by dsimp only; omega, by dsimp only; omega⟩ (by dsimp only; omega)
/-- one key more -/
def bpt (b : Int → Bn) (i f v : Int) : Int → Bn := if i = -1 then b else fun x => if x = i then bput (b i) f v else b x
/-- there is room for a key -/
def rmk (b : Int → Bn) (f i : Int) : Prop := i = -1 ∨ (b i).2.2.2.2.1.1 < 6 ∨ kth (b i).2.2.2.2.1 f = true
theorem bpt_p (b : Int → Bn) (i f v x : Int) : (bpt b i f v x).1 = (b x).1 ∧ (bpt b i f v x).2.1 = (b x).2.1 ∧ (bpt b i f v x).2.2.1 = (b x).2.2.1 ∧ (bpt b i f v x).2.2.2.1 = (b x).2.2.2.1 := by
  unfold bpt
  by_cases e : i = -1
  · rw [if_pos e]
    exact ⟨rfl, rfl, rfl, rfl⟩
  · rw [if_neg e]
    by_cases e2 : x = i
    · rw [if_pos e2, e2]
      exact ⟨rfl, rfl, rfl, rfl⟩
    · rw [if_neg e2]
      exact ⟨rfl, rfl, rfl, rfl⟩
theorem bpt_o {b : Int → Bn} {i f v x : Int} (h : x ≠ i) : bpt b i f v x = b x := by
  unfold bpt
  by_cases e : i = -1
  · rw [if_pos e]
  · rw [if_neg e]
    exact if_neg h
theorem bpt_s {b : Int → Bn} {i f v : Int} (h : 0 ≤ i) : bpt b i f v i = bput (b i) f v := by
  unfold bpt
  rw [if_neg (by omega)]
  exact if_pos rfl
theorem bpt_r {i v : Int} (R : ∀ i, 0 ≤ i → i < N → BnR i (b i)) (i0 : -1 ≤ i) (i1 : i < N) (hf : 0 ≤ f ∧ f ≤ 119) (hv : bLo b i ≤ v ∧ v ≤ bHi b i) (rm : rmk b f i) : ∀ x, 0 ≤ x → x < N → BnR x (bpt b i f v x) := fun x x0 x1 => by
  by_cases e : x = i
  · subst e
    rw [bpt_s x0]
    unfold bLo bHi at hv
    rw [if_neg (by omega), if_neg (by omega)] at hv
    exact bput_r (R x x0 x1) hf hv (rm.resolve_left (by omega))
  · rw [bpt_o e]
    exact R x x0 x1
theorem w178 (F : FH hr) (hn : 775 ≤ n) (C : Bq N b h hr) {i v : Int} (i0 : -1 ≤ i) (i1 : i < N) (hf : 0 ≤ f ∧ f ≤ 119) (hv : bLo b i ≤ v ∧ v ≤ bHi b i) (rm : rmk b f i)
    (k : ∀ h', Bq N (bpt b i f v) h' hr → Ef (fun a _ => 0 ≤ i ∧ 635 + 6 * i.toNat < a ∧ a < 635 + 6 * i.toNat + 4) h h' → Q (none, h', hr, n)) : Sp E 178 [.ref 43, .ref (bid i), .int (J f), .int (J v)] h hr n Q := by
  have V := C.v F i0 i1
  have x1 := V.1.x E F
  have x2 := V.1.r
  have hN := C.1
  have lt1 : bid i < n := by omega
  have R' := bpt_r C.2.1 i0 i1 hf hv rm
  rcases (show i = -1 ∨ 0 ≤ i by omega) with rfl | i2
  · have e : bid (-1) = 99 := rfl
    have e2 : bpt b (-1) f v = b := rfl
    rw [e2] at k
    rw [e]
    simp +decide (maxSteps := 4000000) (disch := omega) only [k178_0, k178_1, k178_r, k178_s, F_al1, F_an1, F_al0, F_an0, T_getR, T_ae, F_il2, F_il3, T_ft, T_ret, c54, FX F, true_or, or_true, ↓reduceIte, TK, lt_run hn, le43, Int.le_refl, Int.lt_irrefl, Option.some.injEq, exists_eq_left', true_and, and_true, if_true, if_false, decide_eq_false_iff_not, decide_eq_true_eq, Nat.reduceAdd, Nat.reduceLeDiff, Nat.reduceLT, Int.reduceAdd, Int.reduceSub, Int.reduceMul, Int.reduceNeg, not_true_eq_false, not_false_eq_true]
    exact k h C Ef.refl
  · have ne : ¬ bid i = 99 := by rw [bid_p i2]; omega
    have bl := bid_le i
    have r := C.2.1 i i2 i1
    have c := C.2.2.1 i i2 i1
    have c4 := c.2.2.1
    rw [← bid_p i2] at c4
    have room := rm.resolve_left (by omega)
    simp +decide (maxSteps := 4000000) (disch := omega) only [k178_0, k178_1, k178_r, k178_s, F_al1, F_an1, F_al0, F_an0, T_getR, T_ae, F_il2, F_il3, T_ft, T_ret, c54, FX F, x1, lt1, ne, bl, true_or, or_true, ↓reduceIte, TK, lt_run hn, le43, Int.le_refl, Int.lt_irrefl, Option.some.injEq, exists_eq_left', true_and, and_true, if_true, if_false, decide_eq_false_iff_not, decide_eq_true_eq, Nat.reduceAdd, Nat.reduceLeDiff, Nat.reduceLT, Int.reduceAdd, Int.reduceSub, Int.reduceMul, Int.reduceNeg, not_true_eq_false, not_false_eq_true]
    refine w54 hn (V.1.k E F) r.2.2.2.1 c4 hf room (fun h1 k1 e1 => ?_)
    simp +decide (maxSteps := 4000000) (disch := omega) only [k178_0, k178_1, k178_r, k178_s, F_al1, F_an1, F_al0, F_an0, T_getR, T_ae, F_il2, F_il3, T_ft, T_ret, c54, ↓reduceIte, TK, lt_run hn, le43, Int.le_refl, Int.lt_irrefl, Option.some.injEq, exists_eq_left', true_and, and_true, if_true, if_false, decide_eq_false_iff_not, decide_eq_true_eq, Nat.reduceAdd, Nat.reduceLeDiff, Nat.reduceLT, Int.reduceAdd, Int.reduceSub, Int.reduceMul, Int.reduceNeg, not_true_eq_false, not_false_eq_true]
    have e3 : Ef (fun a _ => 0 ≤ i ∧ 635 + 6 * i.toNat < a ∧ a < 635 + 6 * i.toNat + 4) h h1 := e1.mono fun a k q => by
      have := bid_p i2
      unfold Sky at q
      omega
    refine k h1 ⟨C.1, R', fun x y0 y1 => ?_, C.2.2.2.ef e3 (fun y k h1 h2 q => by omega)⟩ e3
    by_cases e : x = i
    · subst e
      rw [bpt_s y0]
      rw [bid_p i2] at k1 e1
      refine ⟨c.1, ⟨?_, ?_⟩, k1, fun d d0 d1 => ?_⟩
      · rw [e1 _ _ (by unfold Sky; omega)]
        exact c.2.1.1
      · rw [e1 _ _ (by unfold Sky; omega)]
        exact c.2.1.2
      · rw [e1.g (by unfold Sky; omega), e1.g (by unfold Sky; omega)]
        exact c.2.2.2 d d0 d1
    · rw [bpt_o e]
      rw [bid_p i2] at e1
      exact (C.2.2.1 x y0 y1).ef e1 (fun y k h1 h2 q => by unfold Sky at q; omega)
theorem s177 (F : FH hr) (hn : 775 ≤ n) (C : Bq N b h hr) {i : Int} {r : Bool} (i0 : -1 ≤ i) (i1 : i < N) (hf : 0 ≤ f ∧ f ≤ 119) (hr' : r = true ↔ rmk b f i) : Sp E 177 [.ref 43, .ref (bid i), .int (J f)] h hr n Q ↔ Q (some (.int (Bz r)), h, hr, n) := by
  have V := C.v F i0 i1
  have x1 := V.1.x E F
  have x2 := V.1.r
  have lt1 : bid i < n := by omega
  rcases (show i = -1 ∨ 0 ≤ i by omega) with rfl | i2
  · have e : bid (-1) = 99 := rfl
    rw [hr'.mpr (Or.inl rfl), e]
    simp +decide (maxSteps := 4000000) (disch := omega) only [k177_0, k177_1, k177_2, k177_3, k177_r, k177_s, F_al1, F_an1, F_al0, F_an0, T_getR, T_ae, F_il2, J_ifeq, T_ft, T_I, T_goto, T_ret, c51, ↓s51, FX F, true_or, or_true, Bz_t, ↓reduceIte, TK, lt_run hn, le43, Int.le_refl, Int.lt_irrefl, Option.some.injEq, exists_eq_left', true_and, and_true, if_true, if_false, decide_eq_false_iff_not, decide_eq_true_eq, Nat.reduceAdd, Nat.reduceLeDiff, Nat.reduceLT, Int.reduceAdd, Int.reduceSub, Int.reduceMul, Int.reduceNeg, not_true_eq_false, not_false_eq_true]
  · have ne : ¬ bid i = 99 := by rw [bid_p i2]; omega
    have bl := bid_le i
    have rr := C.2.1 i i2 i1
    have c4 := (C.2.2.1 i i2 i1).2.2.1
    rw [← bid_p i2] at c4
    have S := fun Q => s51 (E := E) (Q := Q) hn (V.1.k E F) rr.2.2.2.1 c4 hf
    have c6 : ((6 : Nat) : Int) = 6 := rfl
    cases r with
    | true =>
      have room := (hr'.mp rfl).resolve_left (by omega)
      rw [c6, decide_eq_true room, Bz_t] at S
      simp +decide (maxSteps := 4000000) (disch := omega) only [k177_0, k177_1, k177_2, k177_3, k177_r, k177_s, F_al1, F_an1, F_al0, F_an0, T_getR, T_ae, F_il2, J_ifeq, T_ft, T_I, T_goto, T_ret, c51, FX F, S, x1, lt1, ne, bl, true_or, or_true, Bz_t, ↓reduceIte, TK, lt_run hn, le43, Int.le_refl, Int.lt_irrefl, Option.some.injEq, exists_eq_left', true_and, and_true, if_true, if_false, decide_eq_false_iff_not, decide_eq_true_eq, Nat.reduceAdd, Nat.reduceLeDiff, Nat.reduceLT, Int.reduceAdd, Int.reduceSub, Int.reduceMul, Int.reduceNeg, not_true_eq_false, not_false_eq_true]
    | false =>
      have room : ¬ ((b i).2.2.2.2.1.1 < 6 ∨ kth (b i).2.2.2.2.1 f = true) := fun z => by
        have := hr'.mpr (Or.inr z)
        cases this
      rw [c6, decide_eq_false room, Bz_f] at S
      simp +decide (maxSteps := 4000000) (disch := omega) only [k177_0, k177_1, k177_2, k177_3, k177_r, k177_s, F_al1, F_an1, F_al0, F_an0, T_getR, T_ae, F_il2, J_ifeq, T_ft, T_I, T_goto, T_ret, c51, FX F, S, x1, lt1, ne, bl, true_or, or_true, Bz_f, ↓reduceIte, TK, lt_run hn, le43, Int.le_refl, Int.lt_irrefl, Option.some.injEq, exists_eq_left', true_and, and_true, if_true, if_false, decide_eq_false_iff_not, decide_eq_true_eq, Nat.reduceAdd, Nat.reduceLeDiff, Nat.reduceLT, Int.reduceAdd, Int.reduceSub, Int.reduceMul, Int.reduceNeg, not_true_eq_false, not_false_eq_true]
theorem w289m (F : FH hr) (hn : 775 ≤ n) (C : Bm N b h) {i v : Int} (i0 : 0 ≤ i) (i1 : i < N) (hf : 0 ≤ f ∧ f ≤ 119) (hv : bLo b i ≤ v ∧ v ≤ bHi b i) (rm : rmk b f i)
    (k : ∀ h', Bm N (bpt b i f v) h' → Ef (fun a _ => 746 ≤ a ∧ a ≤ 748) h h' → Q (none, h', hr, n)) : Sp E 289 [.ref 704, .int (J i), .int (J f), .int (J v)] h hr n Q := by
  have hN := C.1
  have R' := bpt_r C.2.1 (by omega) i1 hf hv rm
  obtain ⟨⟨d1, d2, d3, d4, d5⟩, d6⟩ := C.2.2.2 i i0 i1
  have r := C.2.1 i i0 i1
  refine w289 F hn (by omega) r.2.2.2.1 r.2.2.2.2 d5 d6 hf (rm.resolve_left (by omega)) (fun h1 m1 m2 e1 => ?_)
  refine k h1 ⟨C.1, R', ?_, fun x x0 x1 => ?_⟩ (e1.mono fun a k q => by omega)
  · rw [e1 _ _ (by omega)]
    exact C.2.2.1
  · by_cases e : x = i
    · subst e
      rw [bpt_s x0]
      refine ⟨⟨?_, ?_, ?_, ?_, m1⟩, m2⟩
      · rw [e1.g (by omega)]
        exact d1
      · rw [e1.g (by omega)]
        exact d2
      · rw [e1.g (by omega)]
        exact d3
      · rw [e1.g (by omega)]
        exact d4
    · rw [bpt_o e]
      obtain ⟨⟨b1, b2, b3, b4, b5⟩, b6⟩ := C.2.2.2 x x0 x1
      have r4 := (C.2.1 x x0 x1).2.2.2.1.1
      have r5 := (C.2.1 x x0 x1).2.2.2.2.1
      refine ⟨⟨?_, ?_, ?_, ?_, ?_⟩, b6.ef e1 (fun j j0 j1 => ⟨by omega, by omega⟩)⟩
      · rw [e1.g (by omega)]
        exact b1
      · rw [e1.g (by omega)]
        exact b2
      · rw [e1.g (by omega)]
        exact b3
      · rw [e1.g (by omega)]
        exact b4
      · rw [e1.g (by omega)]
        exact b5
theorem kval_put {K : Kys} {lo hi v o : Int} (R : KR 6 lo hi K) (hf : 0 ≤ f ∧ f ≤ 119) (hv : lo ≤ v ∧ v ≤ hi) (room : K.1 < 6 ∨ kth K f = true) : kval (kput K f v) f o = v := by
  have R' := kput_r R hf hv room
  have ka := kah_r R.1.1 f
  have key : kah K f < (kput K f v).1 ∧ (kput K f v).2.1 (kah K f) = f ∧ (kput K f v).2.2 (kah K f) = v := by
    unfold kput
    by_cases t : kth K f = true
    · have tt : kah K f < K.1 ∧ K.2.1 (kah K f) = f := of_decide_eq_true t
      rw [if_pos t]
      exact ⟨tt.1, tt.2, if_pos rfl⟩
    · rw [if_neg t]
      refine ⟨by show kah K f < K.1 + 1; omega, ?_, ?_⟩
      · dsimp only
        rw [if_neg (Int.lt_irrefl _), if_pos rfl]
      · dsimp only
        rw [if_neg (Int.lt_irrefl _), if_pos rfl]
  have a := (kth_e R' ka.1.1 key.1 key.2.1).1
  unfold kval
  rw [a, if_neg (by omega), if_neg (by omega), if_pos (Or.inr key.2.1)]
  exact key.2.2
theorem an_put {i v x : Int} (R : ∀ i, 0 ≤ i → i < N → BnR i (b i)) (i0 : -1 ≤ i) (i1 : i < N) (hf : 0 ≤ f ∧ f ≤ 119) (hv : bLo b i ≤ v ∧ v ≤ bHi b i) (rm : rmk b f i) (x0 : 0 ≤ x) : an (bpt b i f v) f x = if x = i then v else an b f x := by
  by_cases e : x = i
  · subst e
    rw [if_pos rfl]
    unfold an bK bLo
    rw [if_neg (by omega), if_neg (by omega), bpt_s x0]
    unfold bLo bHi at hv
    rw [if_neg (by omega), if_neg (by omega)] at hv
    exact kval_put (R x x0 i1).2.2.2.1 hf hv (rm.resolve_left (by omega))
  · rw [if_neg e]
    unfold an bK bLo
    rw [if_neg (by omega), if_neg (by omega), if_neg (by omega), if_neg (by omega), bpt_o e]
theorem chs_b {b b' : Int → Bn} (hb : ∀ x, (b' x).1 = (b x).1) (g : Int → Int) : ∀ q i, chs b' g q i = chs b g q i := by
  intro q
  induction q with
  | zero => intro i; rfl
  | succ q ih =>
    intro i
    unfold chs
    rw [hb, ih]
theorem cS_b {b b' : Int → Bn} (hb : ∀ x, (b' x).1 = (b x).1) (g : Int → Int) (i : Int) : cS b' g i = cS b g i := chs_b hb g _ i
theorem eE_b {b b' : Int → Bn} (hb : ∀ x, (b' x).1 = (b x).1 ∧ (b' x).2.1 = (b x).2.1) (A : Int → Int) (c i : Int) : eE b' A c i = eE b A c i := by
  have e : (fun k => bL b' k (cS b' A k + c)) = fun k => bL b k (cS b A k + c) := funext fun k => by
    rw [cS_b (fun x => (hb x).1)]
    unfold bL lng
    rw [(hb k).2]
  unfold eE
  rw [e, cS_b (fun x => (hb x).1)]
end QM
