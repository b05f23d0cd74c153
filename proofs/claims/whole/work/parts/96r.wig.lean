/-! pictures: the class's wiggled drawing -/
def Sdd (x _k : Nat) : Prop := 49 ≤ x ∧ x ≤ 77
section WG
variable {E : AEn} {h h' : AHi} {hr : AHr} {n : Nat} {Q : ARs → Prop} {S : Int32} {V M fr l : Int}
theorem s67 (F : FH hr) (hn : 775 ≤ n) (hl : 0 ≤ l ∧ l < 4) (hM : 0 ≤ M ∧ M ≤ 3) (c1 : h (623 + 3 * l.toNat) 5 = S) (c2 : h (623 + 3 * l.toNat) 7 = J M) {t : Int} {i j a : Int} : Sp E 67 [.ref (623 + 3 * l.toNat), .int (J t), .int (J i), .int (J j), .int (J a)] h hr n Q ↔ Q (some (.int (J (ush (hsh S (J t) (J i) (J j) (J a)) 8 % (2 * M + 1) - M))), h, hr, n) := by
  have x1 := X90 E F hl.1 hl.2
  have a1 := ush8_r (hsh S (J t) (J i) (J j) (J a))
  have nz := eq_true (J_n0 (a := 2 * M + 1) (by omega))
  generalize hU : ush (hsh S (J t) (J i) (J j) (J a)) 8 = U at *
  simp +decide (maxSteps := 4000000) (disch := omega) only [k67_0, k67_1, k67_2, k67_r, k67_s, T_I, F_al0, T_getI, T_mul, T_add, F_is5i, F_is5r, F_is5m, F_il5, J_ifle, F_il1, F_il2, F_il3, F_il4, T_ushr, T_rem, T_sub, T_goto, T_ft, T_ret, c199, ↓s199, x1, c1, c2, ush8, hU, J_remp, nz, show ¬ 2 * M + 1 ≤ 0 by omega, show 0 < 2 * M + 1 by omega, ↓reduceIte, TK, lt_run hn, le43, Int.le_refl, Int.lt_irrefl, Option.some.injEq, exists_eq_left', true_and, and_true, if_true, if_false, decide_eq_false_iff_not, decide_eq_true_eq, Nat.reduceAdd, Nat.reduceLeDiff, Nat.reduceLT, Int.reduceAdd, Int.reduceSub, Int.reduceMul, Int.reduceNeg, not_true_eq_false, not_false_eq_true]
theorem w131 (F : FH hr) (hn : 775 ≤ n) (hl : 0 ≤ l ∧ l < 4) (hM : 0 ≤ M ∧ M ≤ 3) {t p : Nat} (A : SB t) (B : SB p) (ap : t + 3 ≤ p ∨ p + 3 ≤ t) (t0 : t + 2 < 78) {s : Stk} (R : SR s) (C : SC h p s) (c1 : h (623 + 3 * l.toNat) 5 = S) (c2 : h (623 + 3 * l.toNat) 7 = J M) {i bt : Int} {off : Int → Int → Int} (ho : ∀ j a, off j a = ush (hsh S (J bt) (J i) (J j) (J a)) 8 % (2 * M + 1) - M) (hr' : ∀ j a, -3 ≤ off j a ∧ off j a ≤ 3)
    (k : ∀ h', Ef (Sa t) h h' → SC h' t (s.1, s.2.1, fun j => kpt (s.2.2.1 j + off j 0) 47, fun j => kpt (s.2.2.2 j + off j 1) 31) → Q (none, h', hr, n)) : Sp E 131 [.ref t, .ref p, .int (J i), .ref (623 + 3 * l.toNat), .int (J bt)] h hr n Q := by
  have x1 := A.x E F
  have x2 := A.r
  have y1 := B.x E F
  have y2 := B.r
  have z1 := X90 E F hl.1 hl.2
  have r2 := R.2.1
  have d0 := C.1.1
  have d1 : ∀ v, hI h t 0 v p 1 = J s.2.1 := fun v => by rw [hI_o (by omega)]; exact C.1.2
  simp +decide (maxSteps := 4000000) (disch := omega) only [k131_0, k131_2, k131_r, k131_s, F_al0, F_al1, T_getI, T_putI, T_putZ, T_I, F_is5i, F_is5r, F_is5m, T_ft, F_il5, T_icge, T_getR, X_iald, F_al3, F_il4, F_il2, T_add, T_iast, F_inc5i, F_inc5r, F_inc5m, T_goto, T_ret, c67, c201, ↓s67, ↓s201, x1, y1, d0, d1, ↓reduceIte, TK, lt_run hn, le43, Int.le_refl, Int.lt_irrefl, Option.some.injEq, exists_eq_left', true_and, and_true, if_true, if_false, decide_eq_false_iff_not, decide_eq_true_eq, Nat.reduceAdd, Nat.reduceLeDiff, Nat.reduceLT, Int.reduceAdd, Int.reduceSub, Int.reduceMul, Int.reduceNeg, not_true_eq_false, not_false_eq_true]
  refine T_for (σ := Unit) (fun j _ => [.ref t, .ref p, .int (J i), .ref (623 + 3 * l.toNat), .int (J bt), .int (J j)]) (fun j _ h' => Ef (Sa t) h h' ∧ (h' t 0 = J s.1 ∧ h' t 1 = J s.2.1) ∧ ∀ j', 0 ≤ j' → j' < j → gA h' (t + 1) j' = J (kpt (s.2.2.1 j' + off j' 0) 47) ∧ gA h' (t + 2) j' = J (kpt (s.2.2.2 j' + off j' 1) 31)) 0 s.2.1 ?_ ?_ 0 () _ (by omega) (by omega) ⟨Ef.hI (Ef.hI Ef.refl ⟨by omega, by omega⟩) ⟨by omega, by omega⟩, ⟨by rw [hI_k (by decide), hI_s], hI_s⟩, fun j _ _ => by omega⟩
  · rintro j _ h1 j0 j1 ⟨e1, ⟨e2, e3⟩, e4⟩ ih
    have D1 := (C.ef e1 (fun x k q1 q2 q => by unfold Sa at q; omega)).2 j j0 j1
    have f1 : h1 (623 + 3 * l.toNat) 5 = S := (e1 _ _ (fun q => by unfold Sa at q; omega)).trans c1
    have f2 : h1 (623 + 3 * l.toNat) 7 = J M := (e1 _ _ (fun q => by unfold Sa at q; omega)).trans c2
    have t1 := fun {Q} => s67 (E := E) (Q := Q) F hn hl hM f1 f2 (t := bt) (i := i) (j := j) (a := 0)
    rw [← ho j 0] at t1
    have D2 : ∀ v, gA (sA h1 (t + 1) j v) (p + 2) j = J (s.2.2.2 j) := fun v => by rw [gs_o (by omega)]; exact D1.2
    have g1 : ∀ v, sA h1 (t + 1) j v (623 + 3 * l.toNat) 5 = S := fun v => by rw [sA_o (by omega)]; exact f1
    have g2 : ∀ v, sA h1 (t + 1) j v (623 + 3 * l.toNat) 7 = J M := fun v => by rw [sA_o (by omega)]; exact f2
    have t2 := fun {Q} => s67 (E := E) (Q := Q) F hn hl hM (g1 (J (kpt (s.2.2.1 j + off j 0) 47))) (g2 _) (t := bt) (i := i) (j := j) (a := 1)
    rw [← ho j 1] at t2
    have o1 := hr' j 0
    have o2 := hr' j 1
    have b1 := R.2.2 j
    rw [k131_1]
    simp +decide (maxSteps := 4000000) (disch := omega) only [k131_0, k131_2, k131_r, k131_s, F_al0, F_al1, T_getI, T_putI, T_putZ, T_I, F_is5i, F_is5r, F_is5m, T_ft, F_il5, T_icge, T_getR, X_iald, F_al3, F_il4, F_il2, T_add, T_iast, F_inc5i, F_inc5r, F_inc5m, T_goto, T_ret, c67, c201, ↓s201, x1, y1, z1, e3, D1, D2, t1, t2, show ¬ s.2.1 ≤ j by omega, ↓reduceIte, TK, lt_run hn, le43, Int.le_refl, Int.lt_irrefl, Option.some.injEq, exists_eq_left', true_and, and_true, if_true, if_false, decide_eq_false_iff_not, decide_eq_true_eq, Nat.reduceAdd, Nat.reduceLeDiff, Nat.reduceLT, Int.reduceAdd, Int.reduceSub, Int.reduceMul, Int.reduceNeg, not_true_eq_false, not_false_eq_true]
    refine ih () _ ⟨Ef.sA (Ef.sA e1 ⟨by omega, by omega⟩) ⟨by omega, by omega⟩, ⟨by rw [sA_o (by omega), sA_o (by omega)]; exact e2, by rw [sA_o (by omega), sA_o (by omega)]; exact e3⟩, fun j' q0 q1 => ?_⟩
    rw [gs_o (by omega)]
    by_cases g : j' = j
    · rw [g, gs_s, gs_s]
      exact ⟨rfl, rfl⟩
    · rw [gs_k j0 q0 g, gs_k j0 q0 g, gs_o (by omega)]
      exact e4 j' q0 (by omega)
  · rintro _ h1 ⟨e1, ⟨e2, e3⟩, e4⟩
    rw [k131_1]
    simp +decide (maxSteps := 4000000) (disch := omega) only [k131_0, k131_2, k131_r, k131_s, F_al0, F_al1, T_getI, T_putI, T_putZ, T_I, F_is5i, F_is5r, F_is5m, T_ft, F_il5, T_icge, T_getR, X_iald, F_al3, F_il4, F_il2, T_add, T_iast, F_inc5i, F_inc5r, F_inc5m, T_goto, T_ret, c67, c201, ↓s67, ↓s201, x1, e3, ↓reduceIte, TK, lt_run hn, le43, Int.le_refl, Int.lt_irrefl, Option.some.injEq, exists_eq_left', true_and, and_true, if_true, if_false, decide_eq_false_iff_not, decide_eq_true_eq, Nat.reduceAdd, Nat.reduceLeDiff, Nat.reduceLT, Int.reduceAdd, Int.reduceSub, Int.reduceMul, Int.reduceNeg, not_true_eq_false, not_false_eq_true]
    exact k h1 e1 ⟨⟨e2, e3⟩, e4⟩
theorem w49 (F : FH hr) (hn : 775 ≤ n) (hl : 0 ≤ l ∧ l < 4) (hV : 0 < V ∧ V ≤ 24) (hM : 0 ≤ M ∧ M ≤ 3) (hf : 0 ≤ fr ∧ fr ≤ 119) {p : Nat} {ρ : Nat → Nat} (Bp : DB p) (p0 : 159 ≤ p) (P : PS hr p ρ) {D : Drw} {G : Fils} (R : DRr D) (RG : FRr G) (C : DC h p ρ D) (CG : FC h p G) (c1 : h (623 + 3 * l.toNat) 5 = S) (c2 : h (623 + 3 * l.toNat) 6 = J V) (c3 : h (623 + 3 * l.toNat) 7 = J M)
    (k : ∀ h', Ef Sdd h h' → DC h' 49 (fun s => 49 + 5 + 3 * s) (wgD D (fun i j a => wgl S V M fr i j a)) → FC h' 49 G → Q (none, h', hr, n)) : Sp E 49 [.ref 49, .ref p, .ref (623 + 3 * l.toNat), .int (J fr)] h hr n Q := by
  have y1 := Bp.x E F
  have y2 := Bp.r
  have x1 := DB_49.x E F
  have z1 := X90 E F hl.1 hl.2
  have r1 := R.1
  have d0 := C.1
  have nz := eq_true (J_n0 (a := V) (by omega))
  have b6 : ∀ v, hI h 49 1 v (623 + 3 * l.toNat) 6 = J V := fun v => by rw [hI_o (by omega)]; exact c2
  have P49 := PS49 F
  simp +decide (maxSteps := 4000000) (disch := omega) only [k49_0, k49_2, k49_r, k49_s, F_al0, F_al1, T_getI, T_putI, T_putZ, F_al2, F_il3, F_is4i, F_is4r, F_is4m, T_I, F_is5i, F_is5r, F_is5m, T_ft, F_il5, T_icge, T_getR, X_aald, F_il4, F_inc5i, F_inc5r, F_inc5m, T_goto, T_ret, c48, c66, c131, x1, y1, z1, d0, ↓reduceIte, TK, lt_run hn, le43, Int.le_refl, Int.lt_irrefl, Option.some.injEq, exists_eq_left', true_and, and_true, if_true, if_false, decide_eq_false_iff_not, decide_eq_true_eq, Nat.reduceAdd, Nat.reduceLeDiff, Nat.reduceLT, Int.reduceAdd, Int.reduceSub, Int.reduceMul, Int.reduceNeg, not_true_eq_false, not_false_eq_true]
  simp +decide (maxSteps := 4000000) (disch := omega) only [k66_0, k66_1, k66_2, k66_r, k66_s, F_al0, T_getI, J_ifle, F_il1, T_div, T_goto, T_I, T_ft, T_ret, z1, b6, nz, J_divp, show ¬ V ≤ 0 by omega, show 0 < V by omega, ↓reduceIte, TK, lt_run hn, le43, Int.le_refl, Int.lt_irrefl, Option.some.injEq, exists_eq_left', true_and, and_true, if_true, if_false, decide_eq_false_iff_not, decide_eq_true_eq, Nat.reduceAdd, Nat.reduceLeDiff, Nat.reduceLT, Int.reduceAdd, Int.reduceSub, Int.reduceMul, Int.reduceNeg, not_true_eq_false, not_false_eq_true]
  try simp +decide (maxSteps := 4000000) (disch := omega) only [k49_0, k49_2, k49_r, k49_s, F_al0, F_al1, T_getI, T_putI, T_putZ, F_al2, F_il3, F_is4i, F_is4r, F_is4m, T_I, F_is5i, F_is5r, F_is5m, T_ft, F_il5, T_icge, T_getR, X_aald, F_il4, F_inc5i, F_inc5r, F_inc5m, T_goto, T_ret, c48, c66, c131, ↓reduceIte, TK, lt_run hn, le43, Int.le_refl, Int.lt_irrefl, Option.some.injEq, exists_eq_left', true_and, and_true, if_true, if_false, decide_eq_false_iff_not, decide_eq_true_eq, Nat.reduceAdd, Nat.reduceLeDiff, Nat.reduceLT, Int.reduceAdd, Int.reduceSub, Int.reduceMul, Int.reduceNeg, not_true_eq_false, not_false_eq_true]
  refine T_for (σ := Unit) (fun i _ => [.ref 49, .ref p, .ref (623 + 3 * l.toNat), .int (J fr), .int (J (fr / V)), .int (J i)]) (fun i _ h' => Ef Sdd h h' ∧ h' 49 1 = J D.1 ∧ ∀ s, 0 ≤ s → s < i → SC h' (49 + 5 + 3 * s.toNat) ((wgD D (fun i j a => wgl S V M fr i j a)).2 s)) 0 D.1 ?_ ?_ 0 () _ (by omega) (by omega) ⟨Ef.hI Ef.refl ⟨by omega, by omega⟩, hI_s, fun s _ _ => by omega⟩
  · rintro i _ h1 i0 i1 ⟨e1, e2, e3⟩ ih
    have a1 := (P49.1 i.toNat (by omega)).1
    have A1 := P49.sb DB_49 (s := i.toNat) (by omega)
    have a2 := (P.1 i.toNat (by omega)).1
    have A2 := P.sb Bp (s := i.toNat) (by omega)
    have pr := P.r (s := i.toNat) (by omega)
    have u1 := A1.x E F
    have u2 := A2.x E F
    have D1 := (C.2 i i0 i1).ef e1 (fun x k q1 q2 q => by unfold Sdd at q; omega)
    rw [k49_1]
    simp +decide (maxSteps := 4000000) (disch := omega) only [k49_0, k49_2, k49_r, k49_s, F_al0, F_al1, T_getI, T_putI, T_putZ, F_al2, F_il3, F_is4i, F_is4r, F_is4m, T_I, F_is5i, F_is5r, F_is5m, T_ft, F_il5, T_icge, T_getR, X_aald, F_il4, F_inc5i, F_inc5r, F_inc5m, T_goto, T_ret, c48, c66, c131, x1, y1, z1, e2, a1, a2, u1, u2, show ¬ D.1 ≤ i by omega, ↓reduceIte, TK, lt_run hn, le43, Int.le_refl, Int.lt_irrefl, Option.some.injEq, exists_eq_left', true_and, and_true, if_true, if_false, decide_eq_false_iff_not, decide_eq_true_eq, Nat.reduceAdd, Nat.reduceLeDiff, Nat.reduceLT, Int.reduceAdd, Int.reduceSub, Int.reduceMul, Int.reduceNeg, not_true_eq_false, not_false_eq_true]
    refine w131 F hn hl hM A1 A2 (by omega) (by omega) (R.2 i) D1 ((e1 _ _ (fun q => by unfold Sdd at q; omega)).trans c1) ((e1 _ _ (fun q => by unfold Sdd at q; omega)).trans c3) (off := fun j a => wgl S V M fr i j a) (fun j a => rfl) (fun j a => wgl_r hM) (fun h2 q1 q2 => ?_)
    simp +decide (maxSteps := 4000000) (disch := omega) only [k49_0, k49_2, k49_r, k49_s, F_al0, F_al1, T_getI, T_putI, T_putZ, F_al2, F_il3, F_is4i, F_is4r, F_is4m, T_I, F_is5i, F_is5r, F_is5m, T_ft, F_il5, T_icge, T_getR, X_aald, F_il4, F_inc5i, F_inc5r, F_inc5m, T_goto, T_ret, c48, c66, c131, ↓reduceIte, TK, lt_run hn, le43, Int.le_refl, Int.lt_irrefl, Option.some.injEq, exists_eq_left', true_and, and_true, if_true, if_false, decide_eq_false_iff_not, decide_eq_true_eq, Nat.reduceAdd, Nat.reduceLeDiff, Nat.reduceLT, Int.reduceAdd, Int.reduceSub, Int.reduceMul, Int.reduceNeg, not_true_eq_false, not_false_eq_true]
    refine ih () _ ⟨e1.trans (q1.mono fun x k q => ?_), (q1 _ _ (fun q => by unfold Sa at q; omega)).trans e2, fun s s0 s1 => ?_⟩
    · unfold Sa at q
      unfold Sdd
      omega
    · by_cases g : s = i
      · rw [g]
        exact q2
      · exact (e3 s s0 (by omega)).ef q1 (fun x k w1 w2 q => by unfold Sa at q; omega)
  · rintro _ h1 ⟨e1, e2, e3⟩
    rw [k49_1]
    simp +decide (maxSteps := 4000000) (disch := omega) only [k49_0, k49_2, k49_r, k49_s, F_al0, F_al1, T_getI, T_putI, T_putZ, F_al2, F_il3, F_is4i, F_is4r, F_is4m, T_I, F_is5i, F_is5r, F_is5m, T_ft, F_il5, T_icge, T_getR, X_aald, F_il4, F_inc5i, F_inc5r, F_inc5m, T_goto, T_ret, c48, c66, c131, x1, y1, e2, ↓reduceIte, TK, lt_run hn, le43, Int.le_refl, Int.lt_irrefl, Option.some.injEq, exists_eq_left', true_and, and_true, if_true, if_false, decide_eq_false_iff_not, decide_eq_true_eq, Nat.reduceAdd, Nat.reduceLeDiff, Nat.reduceLT, Int.reduceAdd, Int.reduceSub, Int.reduceMul, Int.reduceNeg, not_true_eq_false, not_false_eq_true]
    refine w48 F hn DB_49 Bp (by omega) RG (CG.ef e1 (fun x k q1 q2 q => by unfold Sdd at q; omega)) (fun h2 q1 q2 => ?_)
    simp +decide (maxSteps := 4000000) (disch := omega) only [k49_0, k49_2, k49_r, k49_s, F_al0, F_al1, T_getI, T_putI, T_putZ, F_al2, F_il3, F_is4i, F_is4r, F_is4m, T_I, F_is5i, F_is5r, F_is5m, T_ft, F_il5, T_icge, T_getR, X_aald, F_il4, F_inc5i, F_inc5r, F_inc5m, T_goto, T_ret, c48, c66, c131, ↓reduceIte, TK, lt_run hn, le43, Int.le_refl, Int.lt_irrefl, Option.some.injEq, exists_eq_left', true_and, and_true, if_true, if_false, decide_eq_false_iff_not, decide_eq_true_eq, Nat.reduceAdd, Nat.reduceLeDiff, Nat.reduceLT, Int.reduceAdd, Int.reduceSub, Int.reduceMul, Int.reduceNeg, not_true_eq_false, not_false_eq_true]
    refine k h2 (e1.trans (q2.mono fun x k q => ?_)) ⟨(q2 _ _ (by omega)).trans e2, fun s s0 s1 => (e3 s s0 s1).ef q2 (fun x k w1 w2 q => by omega)⟩ q1
    unfold Sdd
    omega
end WG
