/-! written -/
section WR
variable {E : AEn} {h h' : AHi} {hr : AHr} {n r : Nat} {cap : Int} {Q : ARs → Prop} {l : List Int}
theorem dtx_s (D : Drw) {i : Int} (h : 0 ≤ i) : dtx D (i + 1).toNat = dtx D i.toNat ++ stx (D.2 i) := by
  rw [show (i + 1).toNat = i.toNat + 1 by omega]
  show dtx D i.toNat ++ stx (D.2 (i.toNat : Int)) = _
  rw [Int.toNat_of_nonneg h]
theorem Or.ne (O : Or E hr n r cap) : (r = 47 ∨ r = 775) ∧ 504 ≤ cap := by rcases O.2 with q | q <;> omega
theorem w41 (F : FH hr) (hn : 775 ≤ n) (O : Or E hr n r cap) {b : Nat} (B : DB b) {ρ : Nat → Nat} (P : PS hr b ρ) {D : Drw} (S : DC h b ρ D) (R : DRr D) (C : OC h r []) (k : ∀ h', OC h' r (dtx D D.1.toNat) → Ef (Sw r) h h' → Q (none, h', hr, n)) : Sp E 41 [.ref b, .ref 46] h hr n Q := by
  have x1 := B.x E F
  have x2 := B.r
  have r1 := R.1
  have on := O.ne
  simp +decide (maxSteps := 4000000) (disch := omega) only [k41_0, k41_2, k41_r, k41_s, T_I, F_is2i, F_is2r, F_is2m, T_ft, F_il2, F_al0, T_getI, T_icge, T_getR, X_aald, F_al1, F_inc2i, F_inc2r, F_inc2m, T_goto, T_ret, c116, TK, lt_run hn, le43, Int.le_refl, Int.lt_irrefl, Option.some.injEq, exists_eq_left', true_and, and_true, if_true, if_false, decide_eq_false_iff_not, decide_eq_true_eq, Nat.reduceAdd, Nat.reduceLeDiff, Nat.reduceLT, Int.reduceAdd, Int.reduceSub, Int.reduceMul, Int.reduceNeg, not_true_eq_false, not_false_eq_true]
  refine T_for (σ := Unit) (fun i _ => [.ref b, .ref 46, .int (J i)]) (fun i _ h' => Ef (Sw r) h h' ∧ OC h' r (dtx D i.toNat)) 0 D.1 ?_ ?_ 0 () h (by omega) (by omega) ⟨Ef.refl, C⟩
  · rintro i _ h2 i0 i1 ⟨e2, C2⟩ ih
    have p1 := (P.1 i.toNat (by omega)).1
    have pr := P.r (s := i.toNat) (by omega)
    have A := P.sb B (s := i.toNat) (by omega)
    have x3 := A.x E F
    have c1 : h2 b 1 = J D.1 := by rw [e2 b 1 (fun q => by unfold Sw at q; omega)]; exact S.1
    have g1 := dtx_l R i.toNat
    rw [k41_1]
    simp +decide (maxSteps := 4000000) (disch := omega) only [k41_0, k41_2, k41_r, k41_s, T_I, F_is2i, F_is2r, F_is2m, T_ft, F_il2, F_al0, T_getI, T_icge, T_getR, X_aald, F_al1, F_inc2i, F_inc2r, F_inc2m, T_goto, T_ret, c116, x1, c1, p1, x3, kd_46, show ¬ D.1 ≤ i by omega, TK, lt_run hn, le43, Int.le_refl, Int.lt_irrefl, Option.some.injEq, exists_eq_left', true_and, and_true, if_true, if_false, decide_eq_false_iff_not, decide_eq_true_eq, Nat.reduceAdd, Nat.reduceLeDiff, Nat.reduceLT, Int.reduceAdd, Int.reduceSub, Int.reduceMul, Int.reduceNeg, not_true_eq_false, not_false_eq_true]
    refine w116 F hn O A ((S.2 i i0 i1).ef e2 (fun x k h1 h2 q => by unfold Sw at q; omega)) (R.2 i) C2 (by omega) (fun h3 C3 e3 => ?_)
    simp +decide (maxSteps := 4000000) (disch := omega) only [k41_0, k41_2, k41_r, k41_s, T_I, F_is2i, F_is2r, F_is2m, T_ft, F_il2, F_al0, T_getI, T_icge, T_getR, X_aald, F_al1, F_inc2i, F_inc2r, F_inc2m, T_goto, T_ret, c116, TK, lt_run hn, le43, Int.le_refl, Int.lt_irrefl, Option.some.injEq, exists_eq_left', true_and, and_true, if_true, if_false, decide_eq_false_iff_not, decide_eq_true_eq, Nat.reduceAdd, Nat.reduceLeDiff, Nat.reduceLT, Int.reduceAdd, Int.reduceSub, Int.reduceMul, Int.reduceNeg, not_true_eq_false, not_false_eq_true]
    refine ih () _ ⟨e2.trans e3, ?_⟩
    rw [dtx_s D i0]
    exact C3
  · rintro _ h2 ⟨e2, C2⟩
    have c1 : h2 b 1 = J D.1 := by rw [e2 b 1 (fun q => by unfold Sw at q; omega)]; exact S.1
    rw [k41_1]
    simp +decide (maxSteps := 4000000) (disch := omega) only [k41_0, k41_2, k41_r, k41_s, T_I, F_is2i, F_is2r, F_is2m, T_ft, F_il2, F_al0, T_getI, T_icge, T_getR, X_aald, F_al1, F_inc2i, F_inc2r, F_inc2m, T_goto, T_ret, c116, x1, c1, TK, lt_run hn, le43, Int.le_refl, Int.lt_irrefl, Option.some.injEq, exists_eq_left', true_and, and_true, if_true, if_false, decide_eq_false_iff_not, decide_eq_true_eq, Nat.reduceAdd, Nat.reduceLeDiff, Nat.reduceLT, Int.reduceAdd, Int.reduceSub, Int.reduceMul, Int.reduceNeg, not_true_eq_false, not_false_eq_true]
    exact k h2 C2 e2
theorem SM.sv {k : Int} {s : Stk} (C : SM h k s) (hk : 0 ≤ k) (hp : s.2.1 ≤ 10) (e : Ef Sv h h') : SM h' k s := C.ef hk hp e (fun q => by unfold Sv at q; omega) (fun q => by unfold Sv at q; omega) (fun i _ _ => ⟨fun q => by unfold Sv at q; omega, fun q => by unfold Sv at q; omega⟩)
theorem z231a (F : FH hr) (hn : 775 ≤ n) {m : Int} {v1 : Value} {s : Stk} (hm : 0 ≤ m ∧ m < 128) (S : SM h m s) (R : SR s) (C : OM h l) (hl : (l.length : Int) + 63 ≤ 49264)
    (k : ∀ h', OM h' (l ++ ptx s s.2.1.toNat) → Ef Sv h h' → Tm E 231 (a_bl 231 4) [.ref 704, v1, .int (J m), .int (J (10 * m + s.2.1))] [] h' hr n Q) :
    Tm E 231 (a_bl 231 3) [.ref 704, v1, .int (J m), .int (J (10 * m))] [] h hr n Q := by
  have r2 := R.2.1
  have key := T_for (E := E) (m := 231) (L := 3) (hr := hr) (n := n) (Q := Q) (σ := Unit) (fun i _ => [.ref 704, v1, .int (J m), .int (J (10 * m + i))]) (fun i _ h' => Ef Sv h h' ∧ OM h' (l ++ ptx s i.toNat)) 0 s.2.1 ?_ ?_ 0 () h (by omega) (by omega) ⟨Ef.refl, by show OM h (l ++ []); rw [List.append_nil]; exact C⟩
  · rw [Int.add_zero] at key
    exact key
  · rintro i _ h2 i0 i1 ⟨e2, C2⟩ ih
    have S2 := S.sv (by omega) r2.2 e2
    have c2 := S2.1.2
    have c3 := S2.2 i i0 i1
    have r3 := R.2.2 i
    have g2 := ptx_l s i.toNat
    have g3 := dig_l (s.2.2.1 i)
    rw [k231_3]
    simp +decide (maxSteps := 4000000) (disch := omega) only [k231_0, k231_1, k231_4, k231_5, k231_r, k231_s, F_il1, J_ifne, T_I, T_ret, F_al0, T_putI, T_putZ, T_mul, F_is2i, F_is2r, F_is2m, T_ft, F_il2, T_getR, X_iald, T_add, T_icge, F_is3i, F_is3r, F_is3m, F_il3, F_inc3i, F_inc3r, F_inc3m, T_goto, F_inc2i, F_inc2r, F_inc2m, T_getI, c218, c232, c233, ↓s218, FM F, c2, ln_710, show ¬ 10 * m + s.2.1 ≤ 10 * m + i by omega, TK, lt_run hn, le43, Int.le_refl, Int.lt_irrefl, Option.some.injEq, exists_eq_left', true_and, and_true, if_true, if_false, decide_eq_false_iff_not, decide_eq_true_eq, Nat.reduceAdd, Nat.reduceLeDiff, Nat.reduceLT, Int.reduceAdd, Int.reduceSub, Int.reduceMul, Int.reduceNeg, not_true_eq_false, not_false_eq_true]
    refine w233 F hn C2 (by simp only [List.length_append]; omega) (fun h3 C3 e3 => ?_)
    have S3 := S2.sv (by omega) r2.2 e3
    have c4 := S3.2 i i0 i1
    simp +decide (maxSteps := 4000000) (disch := omega) only [k231_0, k231_1, k231_4, k231_5, k231_r, k231_s, F_il1, J_ifne, T_I, T_ret, F_al0, T_putI, T_putZ, T_mul, F_is2i, F_is2r, F_is2m, T_ft, F_il2, T_getR, X_iald, T_add, T_icge, F_is3i, F_is3r, F_is3m, F_il3, F_inc3i, F_inc3r, F_inc3m, T_goto, F_inc2i, F_inc2r, F_inc2m, T_getI, c218, c232, c233, ↓s218, FM F, c4, ln_711, TK, lt_run hn, le43, Int.le_refl, Int.lt_irrefl, Option.some.injEq, exists_eq_left', true_and, and_true, if_true, if_false, decide_eq_false_iff_not, decide_eq_true_eq, Nat.reduceAdd, Nat.reduceLeDiff, Nat.reduceLT, Int.reduceAdd, Int.reduceSub, Int.reduceMul, Int.reduceNeg, not_true_eq_false, not_false_eq_true]
    refine w232 F hn C3 (by simp only [List.length_append, List.length_cons, List.length_nil]; omega) (by omega) (fun h4 C4 e4 => ?_)
    simp +decide (maxSteps := 4000000) (disch := omega) only [k231_0, k231_1, k231_4, k231_5, k231_r, k231_s, F_il1, J_ifne, T_I, T_ret, F_al0, T_putI, T_putZ, T_mul, F_is2i, F_is2r, F_is2m, T_ft, F_il2, T_getR, X_iald, T_add, T_icge, F_is3i, F_is3r, F_is3m, F_il3, F_inc3i, F_inc3r, F_inc3m, T_goto, F_inc2i, F_inc2r, F_inc2m, T_getI, c218, c232, c233, ↓s218, FM F, TK, lt_run hn, le43, Int.le_refl, Int.lt_irrefl, Option.some.injEq, exists_eq_left', true_and, and_true, if_true, if_false, decide_eq_false_iff_not, decide_eq_true_eq, Nat.reduceAdd, Nat.reduceLeDiff, Nat.reduceLT, Int.reduceAdd, Int.reduceSub, Int.reduceMul, Int.reduceNeg, not_true_eq_false, not_false_eq_true]
    refine w233 F hn C4 (by simp only [List.length_append, List.length_cons, List.length_nil]; omega) (fun h5 C5 e5 => ?_)
    have S5 := (S3.sv (by omega) r2.2 e4).sv (by omega) r2.2 e5
    have c6 := S5.2 i i0 i1
    simp +decide (maxSteps := 4000000) (disch := omega) only [k231_0, k231_1, k231_4, k231_5, k231_r, k231_s, F_il1, J_ifne, T_I, T_ret, F_al0, T_putI, T_putZ, T_mul, F_is2i, F_is2r, F_is2m, T_ft, F_il2, T_getR, X_iald, T_add, T_icge, F_is3i, F_is3r, F_is3m, F_il3, F_inc3i, F_inc3r, F_inc3m, T_goto, F_inc2i, F_inc2r, F_inc2m, T_getI, c218, c232, c233, ↓s218, FM F, c6, ln_712, TK, lt_run hn, le43, Int.le_refl, Int.lt_irrefl, Option.some.injEq, exists_eq_left', true_and, and_true, if_true, if_false, decide_eq_false_iff_not, decide_eq_true_eq, Nat.reduceAdd, Nat.reduceLeDiff, Nat.reduceLT, Int.reduceAdd, Int.reduceSub, Int.reduceMul, Int.reduceNeg, not_true_eq_false, not_false_eq_true]
    refine w232 F hn C5 (by simp only [List.length_append, List.length_cons, List.length_nil]; omega) (by omega) (fun h6 C6 e6 => ?_)
    simp +decide (maxSteps := 4000000) (disch := omega) only [k231_0, k231_1, k231_4, k231_5, k231_r, k231_s, F_il1, J_ifne, T_I, T_ret, F_al0, T_putI, T_putZ, T_mul, F_is2i, F_is2r, F_is2m, T_ft, F_il2, T_getR, X_iald, T_add, T_icge, F_is3i, F_is3r, F_is3m, F_il3, F_inc3i, F_inc3r, F_inc3m, T_goto, F_inc2i, F_inc2r, F_inc2m, T_getI, c218, c232, c233, ↓s218, Int.add_assoc, TK, lt_run hn, le43, Int.le_refl, Int.lt_irrefl, Option.some.injEq, exists_eq_left', true_and, and_true, if_true, if_false, decide_eq_false_iff_not, decide_eq_true_eq, Nat.reduceAdd, Nat.reduceLeDiff, Nat.reduceLT, Int.reduceAdd, Int.reduceSub, Int.reduceMul, Int.reduceNeg, not_true_eq_false, not_false_eq_true]
    refine ih () _ ⟨(((e2.trans e3).trans e4).trans e5).trans e6, ?_⟩
    rw [ptx_s s i0]
    simp only [List.append_assoc] at C6 ⊢
    exact C6
  · rintro _ h2 ⟨e2, C2⟩
    have c2 := (S.sv (by omega) r2.2 e2).1.2
    rw [k231_3]
    simp +decide (maxSteps := 4000000) (disch := omega) only [k231_0, k231_1, k231_5, k231_r, k231_s, F_il1, J_ifne, T_I, T_ret, F_al0, T_putI, T_putZ, T_mul, F_is2i, F_is2r, F_is2m, T_ft, F_il2, T_getR, X_iald, T_add, T_icge, F_is3i, F_is3r, F_is3m, F_il3, F_inc3i, F_inc3r, F_inc3m, T_goto, F_inc2i, F_inc2r, F_inc2m, T_getI, c218, c232, c233, ↓s218, FM F, c2, ln_710, TK, lt_run hn, le43, Int.le_refl, Int.lt_irrefl, Option.some.injEq, exists_eq_left', true_and, and_true, if_true, if_false, decide_eq_false_iff_not, decide_eq_true_eq, Nat.reduceAdd, Nat.reduceLeDiff, Nat.reduceLT, Int.reduceAdd, Int.reduceSub, Int.reduceMul, Int.reduceNeg, not_true_eq_false, not_false_eq_true]
    exact k h2 C2 e2
theorem w231 (F : FH hr) (hn : 775 ≤ n) {d : Int} (hd : 0 ≤ d ∧ d ≤ 15) {D : Drw} (S : DM h d D) (R : DRr D) (k : ∀ h', OM h' (dtx D D.1.toNat) → Ef Sv h h' → Q (some (.int (J (dtx D D.1.toNat).length)), h', hr, n)) : Sp E 231 [.ref 704, .int (J d)] h hr n Q := by
  have r1 := R.1
  have e0 : Ef Sv h (hI h 704 7 (J 0)) := Ef.refl.hI (Or.inl ⟨rfl, rfl⟩)
  simp +decide (maxSteps := 4000000) (disch := omega) only [k231_0, k231_1, k231_4, k231_5, k231_r, k231_s, F_il1, J_ifne, T_I, T_ret, F_al0, T_putI, T_putZ, T_mul, F_is2i, F_is2r, F_is2m, T_ft, F_il2, T_getR, X_iald, T_add, T_icge, F_is3i, F_is3r, F_is3m, F_il3, F_inc3i, F_inc3r, F_inc3m, T_goto, F_inc2i, F_inc2r, F_inc2m, T_getI, c218, c232, c233, ↓s218, FM F, hd, TK, lt_run hn, le43, Int.le_refl, Int.lt_irrefl, Option.some.injEq, exists_eq_left', true_and, and_true, if_true, if_false, decide_eq_false_iff_not, decide_eq_true_eq, Nat.reduceAdd, Nat.reduceLeDiff, Nat.reduceLT, Int.reduceAdd, Int.reduceSub, Int.reduceMul, Int.reduceNeg, not_true_eq_false, not_false_eq_true]
  have key := T_for (E := E) (m := 231) (L := 2) (hr := hr) (n := n) (Q := Q) (σ := Value) (fun i v => [.ref 704, .int (J d), .int (J (8 * d + i)), v]) (fun i _ h' => Ef Sv h h' ∧ OM h' (dtx D i.toNat)) 0 D.1 ?_ ?_ 0 a_mk (hI h 704 7 (J 0)) (by omega) (by omega) ⟨e0, hI_s, fun i i0 i1 => ?_⟩
  · rw [Int.add_zero] at key
    exact key
  · rintro i v h2 i0 i1 ⟨e2, C2⟩ ih
    have c1 : gA h2 708 d = J D.1 := by rw [e2.g (fun q => by unfold Sv at q; omega)]; exact S.1
    have S2 := (S.2 i i0 i1).sv (by omega) (R.2 i).2.1.2 e2
    have c2 := S2.1.1
    have r3 := (R.2 i).1
    have g1 := dtx_l R i.toNat
    have g2 := dig_l (D.2 i).1
    rw [k231_2]
    simp +decide (maxSteps := 4000000) (disch := omega) only [k231_0, k231_1, k231_4, k231_5, k231_r, k231_s, F_il1, J_ifne, T_I, T_ret, F_al0, T_putI, T_putZ, T_mul, F_is2i, F_is2r, F_is2m, T_ft, F_il2, T_getR, X_iald, T_add, T_icge, F_is3i, F_is3r, F_is3m, F_il3, F_inc3i, F_inc3r, F_inc3m, T_goto, F_inc2i, F_inc2r, F_inc2m, T_getI, c218, c232, c233, ↓s218, FM F, c1, c2, ln_708, ln_709, show ¬ 8 * d + D.1 ≤ 8 * d + i by omega, TK, lt_run hn, le43, Int.le_refl, Int.lt_irrefl, Option.some.injEq, exists_eq_left', true_and, and_true, if_true, if_false, decide_eq_false_iff_not, decide_eq_true_eq, Nat.reduceAdd, Nat.reduceLeDiff, Nat.reduceLT, Int.reduceAdd, Int.reduceSub, Int.reduceMul, Int.reduceNeg, not_true_eq_false, not_false_eq_true]
    refine w232 F hn C2 (by omega) (by omega) (fun h3 C3 e3 => ?_)
    simp +decide (maxSteps := 4000000) (disch := omega) only [k231_0, k231_1, k231_4, k231_5, k231_r, k231_s, F_il1, J_ifne, T_I, T_ret, F_al0, T_putI, T_putZ, T_mul, F_is2i, F_is2r, F_is2m, T_ft, F_il2, T_getR, X_iald, T_add, T_icge, F_is3i, F_is3r, F_is3m, F_il3, F_inc3i, F_inc3r, F_inc3m, T_goto, F_inc2i, F_inc2r, F_inc2m, T_getI, c218, c232, c233, ↓s218, TK, lt_run hn, le43, Int.le_refl, Int.lt_irrefl, Option.some.injEq, exists_eq_left', true_and, and_true, if_true, if_false, decide_eq_false_iff_not, decide_eq_true_eq, Nat.reduceAdd, Nat.reduceLeDiff, Nat.reduceLT, Int.reduceAdd, Int.reduceSub, Int.reduceMul, Int.reduceNeg, not_true_eq_false, not_false_eq_true]
    refine z231a F hn (by omega) (S2.sv (by omega) (R.2 i).2.1.2 e3) (R.2 i) C3 (by simp only [List.length_append]; omega) (fun h4 C4 e4 => ?_)
    have g3 := ptx_l (D.2 i) (D.2 i).2.1.toNat
    have r4 := (R.2 i).2.1
    simp +decide (maxSteps := 4000000) (disch := omega) only [k231_0, k231_1, k231_4, k231_5, k231_r, k231_s, F_il1, J_ifne, T_I, T_ret, F_al0, T_putI, T_putZ, T_mul, F_is2i, F_is2r, F_is2m, T_ft, F_il2, T_getR, X_iald, T_add, T_icge, F_is3i, F_is3r, F_is3m, F_il3, F_inc3i, F_inc3r, F_inc3m, T_goto, F_inc2i, F_inc2r, F_inc2m, T_getI, c218, c232, c233, ↓s218, FM F, TK, lt_run hn, le43, Int.le_refl, Int.lt_irrefl, Option.some.injEq, exists_eq_left', true_and, and_true, if_true, if_false, decide_eq_false_iff_not, decide_eq_true_eq, Nat.reduceAdd, Nat.reduceLeDiff, Nat.reduceLT, Int.reduceAdd, Int.reduceSub, Int.reduceMul, Int.reduceNeg, not_true_eq_false, not_false_eq_true]
    refine w233 F hn C4 (by simp only [List.length_append]; omega) (fun h5 C5 e5 => ?_)
    simp +decide (maxSteps := 4000000) (disch := omega) only [k231_0, k231_1, k231_4, k231_5, k231_r, k231_s, F_il1, J_ifne, T_I, T_ret, F_al0, T_putI, T_putZ, T_mul, F_is2i, F_is2r, F_is2m, T_ft, F_il2, T_getR, X_iald, T_add, T_icge, F_is3i, F_is3r, F_is3m, F_il3, F_inc3i, F_inc3r, F_inc3m, T_goto, F_inc2i, F_inc2r, F_inc2m, T_getI, c218, c232, c233, ↓s218, Int.add_assoc, TK, lt_run hn, le43, Int.le_refl, Int.lt_irrefl, Option.some.injEq, exists_eq_left', true_and, and_true, if_true, if_false, decide_eq_false_iff_not, decide_eq_true_eq, Nat.reduceAdd, Nat.reduceLeDiff, Nat.reduceLT, Int.reduceAdd, Int.reduceSub, Int.reduceMul, Int.reduceNeg, not_true_eq_false, not_false_eq_true]
    refine ih _ _ ⟨((e2.trans e3).trans e4).trans e5, ?_⟩
    rw [dtx_s D i0]
    unfold stx
    simp only [List.append_assoc] at C5 ⊢
    exact C5
  · rintro v h2 ⟨e2, C2⟩
    have c1 : gA h2 708 d = J D.1 := by rw [e2.g (fun q => by unfold Sv at q; omega)]; exact S.1
    have c2 := C2.1
    rw [k231_2]
    simp +decide (maxSteps := 4000000) (disch := omega) only [k231_0, k231_1, k231_4, k231_5, k231_r, k231_s, F_il1, J_ifne, T_I, T_ret, F_al0, T_putI, T_putZ, T_mul, F_is2i, F_is2r, F_is2m, T_ft, F_il2, T_getR, X_iald, T_add, T_icge, F_is3i, F_is3r, F_is3m, F_il3, F_inc3i, F_inc3r, F_inc3m, T_goto, F_inc2i, F_inc2r, F_inc2m, T_getI, c218, c232, c233, ↓s218, FM F, c1, c2, ln_708, TK, lt_run hn, le43, Int.le_refl, Int.lt_irrefl, Option.some.injEq, exists_eq_left', true_and, and_true, if_true, if_false, decide_eq_false_iff_not, decide_eq_true_eq, Nat.reduceAdd, Nat.reduceLeDiff, Nat.reduceLT, Int.reduceAdd, Int.reduceSub, Int.reduceMul, Int.reduceNeg, not_true_eq_false, not_false_eq_true]
    exact k h2 C2 e2
  · have i1' : i < 0 := i1
    omega
/-- bytes of a text -/
def Lb (l : List Int) : Prop := ∀ v ∈ l, 0 ≤ v ∧ v ≤ 255
theorem Lb.app {l l' : List Int} (h : Lb l) (h' : Lb l') : Lb (l ++ l') := fun v q => by
  rcases List.mem_append.mp q with q | q
  · exact h v q
  · exact h' v q
theorem Lb_1 {v : Int} (h : 0 ≤ v ∧ v ≤ 255) : Lb [v] := fun w q => by
  rw [List.mem_singleton] at q
  rw [q]
  exact h
theorem Lb_n : Lb [] := fun v q => by cases q
theorem Lb_dig {v : Int} (h : 0 ≤ v ∧ v ≤ 99) : Lb (dig v) := by
  unfold dig
  split
  · exact Lb_1 (by omega)
  · exact Lb.app (l := [48 + v / 10]) (Lb_1 (by omega)) (Lb_1 (by omega))
theorem Lb_gD {l : List Int} (h : Lb l) (i : Nat) : 0 ≤ l.getD i 0 ∧ l.getD i 0 ≤ 255 := by
  rw [List.getD_eq_getElem?_getD]
  cases e : l[i]? with
  | none => exact ⟨Int.le_refl _, by decide⟩
  | some v => exact h v (List.mem_of_getElem? e)
theorem Lb_ptx {s : Stk} (R : SR s) : ∀ k, Lb (ptx s k) := by
  intro k
  induction k with
  | zero => exact Lb_n
  | succ k ih =>
    have h1 := R.2.2 k
    exact (((ih.app (Lb_1 (by decide))).app (Lb_dig (by omega))).app (Lb_1 (by decide))).app (Lb_dig (by omega))
theorem Lb_dtx {D : Drw} (R : DRr D) : ∀ k, Lb (dtx D k) := by
  intro k
  induction k with
  | zero => exact Lb_n
  | succ k ih =>
    have h1 := (R.2 k).1
    exact ih.app (((Lb_dig (by omega)).app (Lb_ptx (R.2 k) _)).app (Lb_1 (by decide)))
/-- THE OUT of both holds a text -/
theorem CpO_of (O : Or E hr n r cap) (hl : l.length ≤ cap) (L : Lb l) (C : OC h r l) (M : OM h l) : CpO E h hr n :=
  ⟨l.length, fun i => l.getD i.toNat 0, r, cap, O.1, O.2, by omega, fun i => Lb_gD L _, C, M.1, M.2⟩
theorem sys_w (O : Or E hr n r cap) {a k : Nat} (q : Sw r a k) : sys a k = 2 := by
  rcases q with ⟨rfl, rfl⟩ | rfl
  · rfl
  · rcases O.ne.1 with rfl | rfl <;> rfl
theorem sys_v {a k : Nat} (q : Sv a k) : sys a k = 2 := by
  rcases q with ⟨rfl, rfl⟩ | rfl <;> rfl
theorem OC.ef (C : OC h r l) (O : Or E hr n r cap) (e : Ef Sv h h') : OC h' r l := by
  have on := O.ne
  refine ⟨?_, fun i i0 i1 => ?_⟩
  · rw [e 46 1 (fun q => by unfold Sv at q; omega)]
    exact C.1
  · rw [e.g (fun q => by unfold Sv at q; omega)]
    exact C.2 i i0 i1
theorem Pwritten (F : FH hr) (hn : 775 ≤ n) (C : Cp3 h hr) (CO : CpO E h hr n) (x : Int32) : Pr2 E 142 231 [.int x] h hr n (Po (fun h' => CpO E h' hr n) 2 2 h hr n) := by
  obtain ⟨D, ρ, C⟩ := C
  have CO0 := CO
  obtain ⟨o, b, r, cap, O1, O2, _, _, _, _, _⟩ := CO
  have O : Or E hr n r cap := ⟨O1, O2⟩
  have on := O.ne
  obtain ⟨a, ha, ha', rfl⟩ := J_of x
  unfold Pr2
  by_cases g : 0 ≤ a ∧ a ≤ 15
  case neg =>
    simp +decide (maxSteps := 4000000) (disch := omega) only [k142_0, k142_1, k142_r, k142_s, F_il1, J_ifne, T_I, T_ret, F_al0, T_getR, X_aald, T_getI, c25, c41, c137, ↓s25, ↓s137, FX F, g, TK, lt_run hn, le43, Int.le_refl, Int.lt_irrefl, Option.some.injEq, exists_eq_left', true_and, and_true, if_true, if_false, decide_eq_false_iff_not, decide_eq_true_eq, Nat.reduceAdd, Nat.reduceLeDiff, Nat.reduceLT, Int.reduceAdd, Int.reduceSub, Int.reduceMul, Int.reduceNeg, not_true_eq_false, not_false_eq_true]
    refine ⟨_, rfl, ?_⟩
    simp +decide (maxSteps := 4000000) (disch := omega) only [k231_0, k231_1, k231_4, k231_5, k231_r, k231_s, F_il1, J_ifne, T_I, T_ret, F_al0, T_putI, T_putZ, T_mul, F_is2i, F_is2r, F_is2m, T_ft, F_il2, T_getR, X_iald, T_add, T_icge, F_is3i, F_is3r, F_is3m, F_il3, F_inc3i, F_inc3r, F_inc3m, T_goto, F_inc2i, F_inc2r, F_inc2m, T_getI, c218, c232, c233, ↓s218, FM F, g, TK, lt_run hn, le43, Int.le_refl, Int.lt_irrefl, Option.some.injEq, exists_eq_left', true_and, and_true, if_true, if_false, decide_eq_false_iff_not, decide_eq_true_eq, Nat.reduceAdd, Nat.reduceLeDiff, Nat.reduceLT, Int.reduceAdd, Int.reduceSub, Int.reduceMul, Int.reduceNeg, not_true_eq_false, not_false_eq_true]
    first | exact ⟨rfl, ⟨CO0, Kp.refl⟩, rfl, rfl⟩ | exact ⟨⟨CO0, Kp.refl⟩, rfl, rfl⟩ | exact ⟨CO0, Kp.refl⟩
  obtain ⟨P, c, m⟩ := C.2 a g.1 (by omega)
  have rr := C.1 a
  have r1 := rr.1
  have x1 := X48 F g.1 (show a < 16 by omega)
  have B := DB_d g.1 (show a < 16 by omega)
  have x2 := B.x E F
  have x5 := B.r
  simp +decide (maxSteps := 4000000) (disch := omega) only [k142_0, k142_1, k142_r, k142_s, F_il1, J_ifne, T_I, T_ret, F_al0, T_getR, X_aald, T_getI, c25, c41, c137, ↓s137, FX F, g, x1, x2, kd_48, ln_48, kd_46, ↓s25 O1, TK, lt_run hn, le43, Int.le_refl, Int.lt_irrefl, Option.some.injEq, exists_eq_left', true_and, and_true, if_true, if_false, decide_eq_false_iff_not, decide_eq_true_eq, Nat.reduceAdd, Nat.reduceLeDiff, Nat.reduceLT, Int.reduceAdd, Int.reduceSub, Int.reduceMul, Int.reduceNeg, not_true_eq_false, not_false_eq_true]
  have e0 : Ef (Sw r) h (hI h 46 1 (J 0)) := Ef.refl.hI (Or.inl ⟨rfl, rfl⟩)
  refine w41 F hn O B P ⟨?_, fun s s1 s2 => ?_⟩ rr ⟨hI_s, fun i i0 i1 => ?_⟩ (fun h2 C2 e2 => ?_)
  · rw [hI_o (by omega)]
    exact c.1
  · have pr := P.r (s := s.toNat) (by omega)
    exact (c.2 s s1 s2).ef e0 (fun x k h1 h2 q => by unfold Sw at q; omega)
  · have i1' : i < 0 := i1
    omega
  · have c2 := C2.1
    simp +decide (maxSteps := 4000000) (disch := omega) only [k142_0, k142_1, k142_r, k142_s, F_il1, J_ifne, T_I, T_ret, F_al0, T_getR, X_aald, T_getI, c25, c41, c137, ↓s25, ↓s137, FX F, c2, TK, lt_run hn, le43, Int.le_refl, Int.lt_irrefl, Option.some.injEq, exists_eq_left', true_and, and_true, if_true, if_false, decide_eq_false_iff_not, decide_eq_true_eq, Nat.reduceAdd, Nat.reduceLeDiff, Nat.reduceLT, Int.reduceAdd, Int.reduceSub, Int.reduceMul, Int.reduceNeg, not_true_eq_false, not_false_eq_true]
    refine ⟨_, rfl, ?_⟩
    have e3 : Ef (Sw r) h h2 := e0.trans e2
    have gl := dtx_l rr (D a).1.toNat
    refine w231 F hn g ⟨?_, fun s s1 s2 => (m.2 s s1 s2).ef (by omega) (rr.2 s).2.1.2 e3 (fun q => by unfold Sw at q; omega) (fun q => by unfold Sw at q; omega) (fun i _ _ => ⟨fun q => by unfold Sw at q; omega, fun q => by unfold Sw at q; omega⟩)⟩ rr (fun h4 C4 e4 => ⟨rfl, ⟨?_, ?_⟩, rfl, rfl⟩)
    · rw [e3.g (fun q => by unfold Sw at q; omega)]
      exact m.1
    · exact CpO_of O (by omega) (Lb_dtx rr _) (C2.ef O e4) C4
    · exact Kp.trans (Kp.of e3 fun a k q => Or.inr (Or.inl (sys_w O q))) (Kp.of e4 fun a k q => Or.inr (Or.inl (sys_v q)))
end WR
