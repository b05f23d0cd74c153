/-! region, PAINT -/
noncomputable def pt1 (pf : Int → Int) (D : Drw) (f : Fil) : Int → Int := fun q => if ro (wll D f.2.2.1) (f.2.1 * 48 + f.1) = false ∧ rg (wll D f.2.2.1) (f.2.1 * 48 + f.1) q = true then f.2.2.2 else pf q
noncomputable def ptF (D : Drw) (G : Fils) : Nat → Int → Int
  | 0 => inkD D D.1.toNat
  | k + 1 => pt1 (ptF D G k) D (G.2 k)
noncomputable def ptD (D : Drw) (G : Fils) : Int → Int := ptF D G G.1.toNat
theorem ptF_s {D : Drw} {G : Fils} {k : Int} (h : 0 ≤ k) : ptF D G (k + 1).toNat = pt1 (ptF D G k.toNat) D (G.2 k) := by
  rw [show (k + 1).toNat = k.toNat + 1 by omega]
  show pt1 (ptF D G k.toNat) D (G.2 (k.toNat : Int)) = _
  rw [Int.toNat_of_nonneg h]
theorem ptF_r {D : Drw} {G : Fils} (R : DRr D) (RG : FRr G) : ∀ k q, 0 ≤ ptF D G k q ∧ ptF D G k q ≤ 15 := by
  intro k
  induction k with
  | zero => exact inkD_r R _
  | succ k ih =>
    intro q
    show 0 ≤ (if _ then (G.2 k).2.2.2 else ptF D G k q) ∧ (if _ then (G.2 k).2.2.2 else ptF D G k q) ≤ 15
    have := (RG.2 k).2.2.2
    split
    · omega
    · exact ih q
section PT
variable {E : AEn} {h h' : AHi} {hr : AHr} {n : Nat} {Q : ARs → Prop} {g s : Int} {l fr : Int} {off : Int → Int → Int → Int}
theorem Pregion (F : FH hr) (hn : 775 ≤ n) (C3 : Cp3 h hr) (C4 : Cp4 h) (x y : Int32) : Pr2 E 154 259 [.int x, .int y] h hr n (Po (fun _ => True) 0 0 h hr n) := by
  obtain ⟨D, ρ, C⟩ := C3
  obtain ⟨G, C4⟩ := C4
  obtain ⟨a, ha, ha', rfl⟩ := J_of x
  obtain ⟨b, hb, hb', rfl⟩ := J_of y
  unfold Pr2
  by_cases g : (0 ≤ a ∧ a ≤ 15) ∧ 0 ≤ b ∧ b ≤ (G a).1 - 1
  case neg =>
    simp +decide (maxSteps := 4000000) (disch := omega) only [k154_0, k154_1, k154_r, k154_s, F_al0, F_il1, F_il2, J_ifne, T_I, T_ret, T_getR, X_aald, F_as3i, F_as3r, F_as3m, F_al3, X_iald, c30, c153, FX F, ↓s153 F hn C4.1 C4.cc, ↓s257 F hn C4.1 C4.mc, g, TK, lt_run hn, le43, Int.le_refl, Int.lt_irrefl, Option.some.injEq, exists_eq_left', true_and, and_true, if_true, if_false, decide_eq_false_iff_not, decide_eq_true_eq, Nat.reduceAdd, Nat.reduceLeDiff, Nat.reduceLT, Int.reduceAdd, Int.reduceSub, Int.reduceMul, Int.reduceNeg, not_true_eq_false, not_false_eq_true]
    refine ⟨_, rfl, ?_⟩
    simp +decide (maxSteps := 4000000) (disch := omega) only [k259_0, k259_1, k259_2, k259_3, k259_r, k259_s, F_al0, F_il1, F_il2, J_ifne, T_I, T_ret, T_mul, T_add, F_is3i, F_is3r, F_is3m, T_getR, F_il3, X_iald, T_getI, J_ifeq, T_goto, T_ft, c251, c254, c257, FM F, ↓s153 F hn C4.1 C4.cc, ↓s257 F hn C4.1 C4.mc, g, TK, lt_run hn, le43, Int.le_refl, Int.lt_irrefl, Option.some.injEq, exists_eq_left', true_and, and_true, if_true, if_false, decide_eq_false_iff_not, decide_eq_true_eq, Nat.reduceAdd, Nat.reduceLeDiff, Nat.reduceLT, Int.reduceAdd, Int.reduceSub, Int.reduceMul, Int.reduceNeg, not_true_eq_false, not_false_eq_true]
    first | exact ⟨rfl, ⟨trivial, Kp.refl⟩, rfl, rfl⟩ | exact ⟨⟨trivial, Kp.refl⟩, rfl, rfl⟩ | exact ⟨trivial, Kp.refl⟩
  obtain ⟨P, c1, m1⟩ := C.2 a g.1.1 (by omega)
  obtain ⟨c2, m2⟩ := C4.2 a g.1.1 (by omega)
  have r := C.1 a
  have r1 := r.1
  have rG := C4.1 a
  have rG1 := rG.1
  have rf := rG.2 b
  obtain ⟨rf1, rf2, rf3, rf4⟩ := id rf
  have x1 := X48 F g.1.1 (show a < 16 by omega)
  have B := DB_d g.1.1 (show a < 16 by omega)
  have x2 := B.x E F
  have x3 := B.r
  have d1 := c2.2 b g.2.1 (by omega)
  have d2 := m2.2 b g.2.1 (by omega)
  simp +decide (maxSteps := 4000000) (disch := omega) only [k154_0, k154_1, k154_r, k154_s, F_al0, F_il1, F_il2, J_ifne, T_I, T_ret, T_getR, X_aald, F_as3i, F_as3r, F_as3m, F_al3, X_iald, c30, c153, FX F, ↓s153 F hn C4.1 C4.cc, g, x1, x2, d1.1, d1.2.1, kd_48, ln_48, TK, lt_run hn, le43, Int.le_refl, Int.lt_irrefl, Option.some.injEq, exists_eq_left', true_and, and_true, if_true, if_false, decide_eq_false_iff_not, decide_eq_true_eq, Nat.reduceAdd, Nat.reduceLeDiff, Nat.reduceLT, Int.reduceAdd, Int.reduceSub, Int.reduceMul, Int.reduceNeg, not_true_eq_false, not_false_eq_true]
  refine w30 F hn B P r c1 rf3 (by omega) (fun h1 e1 => ?_)
  simp +decide (maxSteps := 4000000) (disch := omega) only [k154_0, k154_1, k154_r, k154_s, F_al0, F_il1, F_il2, J_ifne, T_I, T_ret, T_getR, X_aald, F_as3i, F_as3r, F_as3m, F_al3, X_iald, c30, c153, ↓s153, TK, lt_run hn, le43, Int.le_refl, Int.lt_irrefl, Option.some.injEq, exists_eq_left', true_and, and_true, if_true, if_false, decide_eq_false_iff_not, decide_eq_true_eq, Nat.reduceAdd, Nat.reduceLeDiff, Nat.reduceLT, Int.reduceAdd, Int.reduceSub, Int.reduceMul, Int.reduceNeg, not_true_eq_false, not_false_eq_true]
  refine ⟨_, rfl, ?_⟩
  have mc : ∀ d, 0 ≤ d → d < 16 → gA h1 719 d = J (G d).1 := fun d d0 d1 => by
    rw [e1.g (by unfold Scv; omega)]
    exact C4.mc d d0 d1
  have m3 := m1.ef r g.1.1 e1 (fun x k h1 h2 q => by unfold Scv at q; omega)
  have d3 := d2.ef e1 (fun x h1 h2 q => by unfold Scv at q; omega)
  simp +decide (maxSteps := 4000000) (disch := omega) only [k259_0, k259_1, k259_2, k259_3, k259_r, k259_s, F_al0, F_il1, F_il2, J_ifne, T_I, T_ret, T_mul, T_add, F_is3i, F_is3r, F_is3m, T_getR, F_il3, X_iald, T_getI, J_ifeq, T_goto, T_ft, c251, c254, c257, FM F, ↓s257 F hn C4.1 mc, g, TK, lt_run hn, le43, Int.le_refl, Int.lt_irrefl, Option.some.injEq, exists_eq_left', true_and, and_true, if_true, if_false, decide_eq_false_iff_not, decide_eq_true_eq, Nat.reduceAdd, Nat.reduceLeDiff, Nat.reduceLT, Int.reduceAdd, Int.reduceSub, Int.reduceMul, Int.reduceNeg, not_true_eq_false, not_false_eq_true]
  refine w251 F hn (by omega) r (W0 rfl) m3 (fun h3 P3 X3 e3 => ?_)
  have d4 := d3.ef e3 (fun x h1 h2 q => by unfold Sdr at q; omega)
  simp +decide (maxSteps := 4000000) (disch := omega) only [k259_0, k259_1, k259_2, k259_3, k259_r, k259_s, F_al0, F_il1, F_il2, J_ifne, T_I, T_ret, T_mul, T_add, F_is3i, F_is3r, F_is3m, T_getR, F_il3, X_iald, T_getI, J_ifeq, T_goto, T_ft, c251, c254, c257, ↓s257, FM F, d4.1, d4.2.1, ln_720, ln_721, ln_722, TK, lt_run hn, le43, Int.le_refl, Int.lt_irrefl, Option.some.injEq, exists_eq_left', true_and, and_true, if_true, if_false, decide_eq_false_iff_not, decide_eq_true_eq, Nat.reduceAdd, Nat.reduceLeDiff, Nat.reduceLT, Int.reduceAdd, Int.reduceSub, Int.reduceMul, Int.reduceNeg, not_true_eq_false, not_false_eq_true]
  refine m254 F hn (by omega) rf1 rf2 r (m3.ef r g.1.1 e3 (fun x k h1 h2 q => by unfold Sdr at q; omega)) X3 rf3 P3 (fun h4 a4 e4 => ?_)
  have ee : Ef (fun x k => sys x k = 0) h h4 := (e1.mono fun x k q => scv0 q).trans ((e3.mono fun x k q => sdr0 q).trans (e4.mono fun x k q => scw0 q))
  have fin : Po (fun _ => True) 0 0 h hr n h4 hr n := ⟨⟨trivial, Kp.of ee (fun x k q => Or.inl q)⟩, rfl, rfl⟩
  have a41 := a4.1
  have a42 := a4.2
  cases o : ro (wll (D a) ((G a).2 b).2.2.1) (((G a).2 b).2.1 * 48 + ((G a).2 b).1) with
  | true =>
    rw [o, Bz_t] at a42
    rw [if_pos (show (true : Bool) = true from rfl)]
    simp +decide (maxSteps := 4000000) (disch := omega) only [k259_0, k259_1, k259_2, k259_3, k259_r, k259_s, F_al0, F_il1, F_il2, J_ifne, T_I, T_ret, T_mul, T_add, F_is3i, F_is3r, F_is3m, T_getR, F_il3, X_iald, T_getI, J_ifeq, T_goto, T_ft, c251, c254, c257, ↓s257, FM F, a42, TK, lt_run hn, le43, Int.le_refl, Int.lt_irrefl, Option.some.injEq, exists_eq_left', true_and, and_true, if_true, if_false, decide_eq_false_iff_not, decide_eq_true_eq, Nat.reduceAdd, Nat.reduceLeDiff, Nat.reduceLT, Int.reduceAdd, Int.reduceSub, Int.reduceMul, Int.reduceNeg, not_true_eq_false, not_false_eq_true]
    exact fin
  | false =>
    rw [o, Bz_f] at a42
    rw [if_neg (show ¬ (false : Bool) = true by decide)]
    simp +decide (maxSteps := 4000000) (disch := omega) only [k259_0, k259_1, k259_2, k259_3, k259_r, k259_s, F_al0, F_il1, F_il2, J_ifne, T_I, T_ret, T_mul, T_add, F_is3i, F_is3r, F_is3m, T_getR, F_il3, X_iald, T_getI, J_ifeq, T_goto, T_ft, c251, c254, c257, ↓s257, FM F, a41, a42, TK, lt_run hn, le43, Int.le_refl, Int.lt_irrefl, Option.some.injEq, exists_eq_left', true_and, and_true, if_true, if_false, decide_eq_false_iff_not, decide_eq_true_eq, Nat.reduceAdd, Nat.reduceLeDiff, Nat.reduceLT, Int.reduceAdd, Int.reduceSub, Int.reduceMul, Int.reduceNeg, not_true_eq_false, not_false_eq_true]
    exact fin
theorem w37 (F : FH hr) (hn : 775 ≤ n) {b : Nat} (B : DB b) {ρ : Nat → Nat} (P : PS hr b ρ) {D : Drw} {G : Fils} (R : DRr D) (C : DC h b ρ D) (RG : FRr G) (CG : FC h b G)
    (k : ∀ h', PA h' 80 (ptD D G) → Ef Scv h h' → Q (none, h', hr, n)) : Sp E 37 [.ref 78, .ref b] h hr n Q := by
  have x1 := B.x E F
  have x2 := B.r
  have xb : b = 49 ∨ 159 ≤ b := by rcases B with q | ⟨d, q1, q2⟩ <;> omega
  have r1 := R.1
  have rg1 := RG.1
  have q79 : a_ln E 79 = 1536 := rfl
  have q80 : a_ln E 80 = 1536 := rfl
  simp +decide (maxSteps := 4000000) (disch := omega) only [k37_0, k37_3, k37_4, k37_r, k37_s, F_al0, F_al1, T_getR, T_I, J_cp, F_is2i, F_is2r, F_is2m, T_ft, F_il2, T_getI, T_icge, X_iald, F_is3i, F_is3r, F_is3m, F_il3, J_ifne, T_iast, F_inc3i, F_inc3r, F_inc3m, T_goto, F_inc2i, F_inc2r, F_inc2m, T_ret, c31, c34, FX F, TK, lt_run hn, le43, Int.le_refl, Int.lt_irrefl, Option.some.injEq, exists_eq_left', true_and, and_true, if_true, if_false, decide_eq_false_iff_not, decide_eq_true_eq, Nat.reduceAdd, Nat.reduceLeDiff, Nat.reduceLT, Int.reduceAdd, Int.reduceSub, Int.reduceMul, Int.reduceNeg, not_true_eq_false, not_false_eq_true]
  refine w31 F hn B P R C (fun h1 P1 L1 e1 => ?_)
  have hr1 := inkD_r R D.1.toNat
  simp +decide (maxSteps := 4000000) (disch := omega) only [k37_0, k37_3, k37_4, k37_r, k37_s, F_al0, F_al1, T_getR, T_I, J_cp, F_is2i, F_is2r, F_is2m, T_ft, F_il2, T_getI, T_icge, X_iald, F_is3i, F_is3r, F_is3m, F_il3, J_ifne, T_iast, F_inc3i, F_inc3r, F_inc3m, T_goto, F_inc2i, F_inc2r, F_inc2m, T_ret, c31, c34, FX F, true_or, TK, lt_run hn, le43, Int.le_refl, Int.lt_irrefl, Option.some.injEq, exists_eq_left', true_and, and_true, if_true, if_false, decide_eq_false_iff_not, decide_eq_true_eq, Nat.reduceAdd, Nat.reduceLeDiff, Nat.reduceLT, Int.reduceAdd, Int.reduceSub, Int.reduceMul, Int.reduceNeg, not_true_eq_false, not_false_eq_true]
  have e2 : Ef Scv h (cpA h1 79 0 80 0 1536) := cp_e (e1.mono fun a k q => by unfold Sik Sie at q; unfold Scv; omega) (fun k => Or.inl (by omega))
  have P2 : PA (cpA h1 79 0 80 0 1536) 80 (ptF D G 0) := fun q q0 q1 => by
    rw [cp_g (by omega) (by omega) (by omega) q0, if_pos (by omega), show (0 : Int) + (q - 0) = q by omega]
    exact P1 q q0 q1
  have e12 : Ef (fun a _ => a = 80) h1 (cpA h1 79 0 80 0 1536) := cp_e Ef.refl (fun _ => rfl)
  refine T_for (σ := Value) (fun i v => [.ref 78, .ref b, .int (J i), v]) (fun i v h' => Ef Scv h h' ∧ PA h' 80 (ptF D G i.toNat) ∧ PA h' 79 (inkD D D.1.toNat) ∧ EC h' (endD D D.1.toNat)) 0 G.1 ?_ ?_ 0 a_mk _ (by omega) (by omega) ⟨e2, P2, P1.ef e12 (fun k => by decide), L1.ef e12 (fun a k q q' => by omega)⟩
  · rintro i v3 h3 i0 i1 ⟨e3, P3, I3, L3⟩ ih
    have CG3 := CG.ef e3 (fun x k h1 h2 q => by unfold Scv at q; omega)
    have d0 := CG3.1
    have d1 := CG3.2 i i0 i1
    have rf := RG.2 i
    obtain ⟨rf1, rf2, rf3, rf4⟩ := id rf
    have ps := ptF_s (D := D) (G := G) i0
    rw [k37_1]
    simp +decide (maxSteps := 4000000) (disch := omega) only [k37_0, k37_3, k37_4, k37_r, k37_s, F_al0, F_al1, T_getR, T_I, J_cp, F_is2i, F_is2r, F_is2m, T_ft, F_il2, T_getI, T_icge, X_iald, F_is3i, F_is3r, F_is3m, F_il3, J_ifne, T_iast, F_inc3i, F_inc3r, F_inc3m, T_goto, F_inc2i, F_inc2r, F_inc2m, T_ret, c31, c34, FX F, x1, d0, d1.1, d1.2.1, show ¬ G.1 ≤ i by omega, TK, lt_run hn, le43, Int.le_refl, Int.lt_irrefl, Option.some.injEq, exists_eq_left', true_and, and_true, if_true, if_false, decide_eq_false_iff_not, decide_eq_true_eq, Nat.reduceAdd, Nat.reduceLeDiff, Nat.reduceLT, Int.reduceAdd, Int.reduceSub, Int.reduceMul, Int.reduceNeg, not_true_eq_false, not_false_eq_true]
    refine w34 F hn (s := (G.2 i).2.1 * 48 + (G.2 i).1) rf3 L3 (endD_2 R) (endD_l R _).2 I3 hr1 (by omega) (fun h4 S R4 C4 re e4 => ?_)
    simp +decide (maxSteps := 4000000) (disch := omega) only [k37_0, k37_3, k37_4, k37_r, k37_s, F_al0, F_al1, T_getR, T_I, J_cp, F_is2i, F_is2r, F_is2m, T_ft, F_il2, T_getI, T_icge, X_iald, F_is3i, F_is3r, F_is3m, F_il3, J_ifne, T_iast, F_inc3i, F_inc3r, F_inc3m, T_goto, F_inc2i, F_inc2r, F_inc2m, T_ret, c31, c34, FX F, TK, lt_run hn, le43, Int.le_refl, Int.lt_irrefl, Option.some.injEq, exists_eq_left', true_and, and_true, if_true, if_false, decide_eq_false_iff_not, decide_eq_true_eq, Nat.reduceAdd, Nat.reduceLeDiff, Nat.reduceLT, Int.reduceAdd, Int.reduceSub, Int.reduceMul, Int.reduceNeg, not_true_eq_false, not_false_eq_true]
    have o4 := C4.o re
    have e4' : Ef Scv h3 h4 := e4.mono fun a k q => by unfold Srg at q; unfold Scv; omega
    have P4 := P3.ef e4 (fun k q => by unfold Srg at q; omega)
    have I4 := I3.ef e4 (fun k q => by unfold Srg at q; omega)
    have L4 : EC h4 (endD D D.1.toNat) := by
      refine ⟨?_, fun j q hq => ?_⟩
      · rw [e4 78 8 (by unfold Srg; omega)]
        exact L3.1
      · rw [e4.g (by unfold Srg; omega), e4.g (by unfold Srg; omega)]
        exact L3.2 j q hq
    have d2 := (CG3.ef e4' (fun x k h1 h2 q => by unfold Scv at q; omega)).2 i i0 i1
    have ct := C4.1.1
    have cr := cnt_r S
    obtain ⟨o5, o6⟩ := o4
    change h4 78 5 = Bz (ro (wll D (G.2 i).2.2.1) ((G.2 i).2.1 * 48 + (G.2 i).1)) at o5
    change ro (wll D (G.2 i).2.2.1) ((G.2 i).2.1 * 48 + (G.2 i).1) = false → S = rg (wll D (G.2 i).2.2.1) ((G.2 i).2.1 * 48 + (G.2 i).1) at o6
    cases o : ro (wll D (G.2 i).2.2.1) ((G.2 i).2.1 * 48 + (G.2 i).1) with
    | true =>
      rw [o, Bz_t] at o5
      have fin : PA h4 80 (ptF D G (i + 1).toNat) := by
        rw [ps]
        unfold pt1
        rw [o]
        exact fun q q0 q1 => by
          dsimp only
          rw [if_neg (fun z => by cases z.1)]
          exact P4 q q0 q1
      by_cases z : cnt S ≤ 0
      · rw [k37_2]
        simp +decide (maxSteps := 4000000) (disch := omega) only [k37_0, k37_3, k37_4, k37_r, k37_s, F_al0, F_al1, T_getR, T_I, J_cp, F_is2i, F_is2r, F_is2m, T_ft, F_il2, T_getI, T_icge, X_iald, F_is3i, F_is3r, F_is3m, F_il3, J_ifne, T_iast, F_inc3i, F_inc3r, F_inc3m, T_goto, F_inc2i, F_inc2r, F_inc2m, T_ret, c31, c34, FX F, ct, z, TK, lt_run hn, le43, Int.le_refl, Int.lt_irrefl, Option.some.injEq, exists_eq_left', true_and, and_true, if_true, if_false, decide_eq_false_iff_not, decide_eq_true_eq, Nat.reduceAdd, Nat.reduceLeDiff, Nat.reduceLT, Int.reduceAdd, Int.reduceSub, Int.reduceMul, Int.reduceNeg, not_true_eq_false, not_false_eq_true]
        exact ih _ h4 ⟨e3.trans e4', fin, I4, L4⟩
      · rw [k37_2]
        simp +decide (maxSteps := 4000000) (disch := omega) only [k37_0, k37_3, k37_4, k37_r, k37_s, F_al0, F_al1, T_getR, T_I, J_cp, F_is2i, F_is2r, F_is2m, T_ft, F_il2, T_getI, T_icge, X_iald, F_is3i, F_is3r, F_is3m, F_il3, J_ifne, T_iast, F_inc3i, F_inc3r, F_inc3m, T_goto, F_inc2i, F_inc2r, F_inc2m, T_ret, c31, c34, FX F, ct, o5, z, TK, lt_run hn, le43, Int.le_refl, Int.lt_irrefl, Option.some.injEq, exists_eq_left', true_and, and_true, if_true, if_false, decide_eq_false_iff_not, decide_eq_true_eq, Nat.reduceAdd, Nat.reduceLeDiff, Nat.reduceLT, Int.reduceAdd, Int.reduceSub, Int.reduceMul, Int.reduceNeg, not_true_eq_false, not_false_eq_true]
        exact ih _ h4 ⟨e3.trans e4', fin, I4, L4⟩
    | false =>
      rw [o, Bz_f] at o5
      have hS := o6 o
      obtain ⟨c1, c2, c3, c4⟩ := C4
      refine T_for (σ := Unit) (fun j _ => [.ref 78, .ref b, .int (J i), .int (J j)]) (fun j _ h' => Ef (fun a _ => a = 80) h4 h' ∧ (∀ m, 0 ≤ m → m < j → gA h' 80 (R4 m) = J (G.2 i).2.2.2) ∧ ∀ q, 0 ≤ q → q < 1536 → (∀ m, 0 ≤ m → m < j → R4 m ≠ q) → gA h' 80 q = J (ptF D G i.toNat q)) 0 (cnt S) ?_ ?_ 0 () h4 (by omega) (by omega) ⟨Ef.refl, fun m _ _ => by omega, fun q q0 q1 _ => P4 q q0 q1⟩
      · rintro j _ h5 j0 j1 ⟨e5, a1, a2⟩ ih2
        obtain ⟨t1, t2⟩ := c3 j j0 j1
        have fr := (c4 _ t2).1.f
        have fr0 := fr.1
        have fr1 := fr.2.1
        have t3 : gA h5 82 j = J (R4 j) := by
          rw [e5.g (by decide)]
          exact t1
        have t4 : h5 78 4 = J (cnt S) := by
          rw [e5 78 4 (by decide)]
          exact ct
        have t5 : h5 78 5 = J 0 := by
          rw [e5 78 5 (by decide)]
          exact o5
        have t6 : gA h5 (b + 4) i = J (G.2 i).2.2.2 := by
          rw [e5.g (by omega)]
          exact d2.2.2
        rw [k37_2]
        simp +decide (maxSteps := 4000000) (disch := omega) only [k37_0, k37_3, k37_4, k37_r, k37_s, F_al0, F_al1, T_getR, T_I, J_cp, F_is2i, F_is2r, F_is2m, T_ft, F_il2, T_getI, T_icge, X_iald, F_is3i, F_is3r, F_is3m, F_il3, J_ifne, T_iast, F_inc3i, F_inc3r, F_inc3m, T_goto, F_inc2i, F_inc2r, F_inc2m, T_ret, c31, c34, FX F, x1, t3, t4, t5, t6, ln_80, ln_82, show ¬ cnt S ≤ j by omega, TK, lt_run hn, le43, Int.le_refl, Int.lt_irrefl, Option.some.injEq, exists_eq_left', true_and, and_true, if_true, if_false, decide_eq_false_iff_not, decide_eq_true_eq, Nat.reduceAdd, Nat.reduceLeDiff, Nat.reduceLT, Int.reduceAdd, Int.reduceSub, Int.reduceMul, Int.reduceNeg, not_true_eq_false, not_false_eq_true]
        refine ih2 () _ ⟨e5.sA rfl, fun m m0 m1 => ?_, fun q q0 q1 hq => ?_⟩
        · by_cases e : R4 m = R4 j
          · rw [e, gs_s]
          · have fr2 := (c4 _ (c3 m m0 (by omega)).2).1.f
            rw [gs_k fr0 fr2.1 e]
            exact a1 m m0 (by
              rcases (show m < j ∨ m = j by omega) with z | z
              · exact z
              · exact absurd (by rw [z]) e)
        · rw [gs_k fr0 q0 (fun z => hq j j0 (by omega) z.symm)]
          exact a2 q q0 q1 (fun m m0 m1 => hq m m0 (by omega))
      · rintro _ h5 ⟨e5, a1, a2⟩
        have t4 : h5 78 4 = J (cnt S) := by
          rw [e5 78 4 (by decide)]
          exact ct
        rw [k37_2]
        simp +decide (maxSteps := 4000000) (disch := omega) only [k37_0, k37_3, k37_4, k37_r, k37_s, F_al0, F_al1, T_getR, T_I, J_cp, F_is2i, F_is2r, F_is2m, T_ft, F_il2, T_getI, T_icge, X_iald, F_is3i, F_is3r, F_is3m, F_il3, J_ifne, T_iast, F_inc3i, F_inc3r, F_inc3m, T_goto, F_inc2i, F_inc2r, F_inc2m, T_ret, c31, c34, FX F, t4, TK, lt_run hn, le43, Int.le_refl, Int.lt_irrefl, Option.some.injEq, exists_eq_left', true_and, and_true, if_true, if_false, decide_eq_false_iff_not, decide_eq_true_eq, Nat.reduceAdd, Nat.reduceLeDiff, Nat.reduceLT, Int.reduceAdd, Int.reduceSub, Int.reduceMul, Int.reduceNeg, not_true_eq_false, not_false_eq_true]
        refine ih _ h5 ⟨(e3.trans e4').trans (e5.mono fun a k q => Or.inl (by omega)), fun q q0 q1 => ?_, I4.ef e5 (fun k => by decide), L4.ef e5 (fun a k q q' => by omega)⟩
        rw [ps]
        show gA h5 80 q = J (if ro (wll D (G.2 i).2.2.1) ((G.2 i).2.1 * 48 + (G.2 i).1) = false ∧ rg (wll D (G.2 i).2.2.1) ((G.2 i).2.1 * 48 + (G.2 i).1) q = true then (G.2 i).2.2.2 else ptF D G i.toNat q)
        rw [o, ← hS]
        cases sq : S q with
        | true =>
          rw [if_pos ⟨rfl, rfl⟩]
          obtain ⟨_, m, m0, m1, m2⟩ := c4 q sq
          rw [← m2]
          exact a1 m m0 m1
        | false =>
          rw [if_neg (fun z => by cases z.2)]
          refine a2 q q0 q1 (fun m m0 m1 z => ?_)
          have := (c3 m m0 m1).2
          rw [z, sq] at this
          cases this
  · rintro v3 h3 ⟨e3, P3, I3, L3⟩
    have d0 := (CG.ef e3 (fun x k h1 h2 q => by unfold Scv at q; omega)).1
    rw [k37_1]
    simp +decide (maxSteps := 4000000) (disch := omega) only [k37_0, k37_3, k37_4, k37_r, k37_s, F_al0, F_al1, T_getR, T_I, J_cp, F_is2i, F_is2r, F_is2m, T_ft, F_il2, T_getI, T_icge, X_iald, F_is3i, F_is3r, F_is3m, F_il3, J_ifne, T_iast, F_inc3i, F_inc3r, F_inc3m, T_goto, F_inc2i, F_inc2r, F_inc2m, T_ret, c31, c34, FX F, x1, d0, TK, lt_run hn, le43, Int.le_refl, Int.lt_irrefl, Option.some.injEq, exists_eq_left', true_and, and_true, if_true, if_false, decide_eq_false_iff_not, decide_eq_true_eq, Nat.reduceAdd, Nat.reduceLeDiff, Nat.reduceLT, Int.reduceAdd, Int.reduceSub, Int.reduceMul, Int.reduceNeg, not_true_eq_false, not_false_eq_true]
    exact k h3 P3 e3
def Spm (a k : Nat) : Prop := Sdr a k ∨ Scw a k ∨ a = 727
theorem spm0 {a k : Nat} (h : Spm a k) : sys a k = 0 := by
  rcases h with h | h | rfl
  · exact sdr0 h
  · exact scw0 h
  · rfl
theorem w261 (F : FH hr) (hn : 775 ≤ n) {d : Int} {D : Drw} {G : Fils} (hd : 0 ≤ d ∧ d < 16) (R : DRr D) (W : Wof h l fr off) (M : DM h d D) (RG : FRr G) (MG : FD h d G)
    (k : ∀ h', PA h' 727 (ptD (wgD D off) G) → Ef Spm h h' → Q (none, h', hr, n)) : Sp E 261 [.ref 704, .int (J d), .int (J l), .int (J fr)] h hr n Q := by
  have r1 := R.1
  have rg1 := RG.1
  simp +decide (maxSteps := 4000000) (disch := omega) only [k261_0, k261_2, k261_5, k261_6, k261_7, k261_r, k261_s, F_al0, F_il1, F_il2, F_il3, T_I, F_is4i, F_is4r, F_is4m, T_ft, F_il4, T_icge, T_getR, X_iald, T_iast, F_inc4i, F_inc4r, F_inc4m, T_goto, T_mul, T_add, F_is5i, F_is5r, F_is5m, F_il5, T_getI, J_ifne, X_bald, J_ifeq, F_inc5i, F_inc5r, F_inc5m, T_ret, c251, c254, FM F, TK, lt_run hn, le43, Int.le_refl, Int.lt_irrefl, Option.some.injEq, exists_eq_left', true_and, and_true, if_true, if_false, decide_eq_false_iff_not, decide_eq_true_eq, Nat.reduceAdd, Nat.reduceLeDiff, Nat.reduceLT, Int.reduceAdd, Int.reduceSub, Int.reduceMul, Int.reduceNeg, not_true_eq_false, not_false_eq_true]
  refine w251 F hn hd R W M (fun h1 P1 X1 e1 => ?_)
  have R' := wgD_r R off
  have hp : ∀ i, ((wgD D off).2 i).2.1 = (D.2 i).2.1 := fun i => rfl
  have hm : (wgD D off).1 = D.1 := rfl
  have pd : ptF (wgD D off) G 0 = inkD (wgD D off) D.1.toNat := rfl
  have wd : ∀ g, wll (wgD D off) g = wlI (inkD (wgD D off) D.1.toNat) (endD (wgD D off) D.1.toNat) g (endD (wgD D off) D.1.toNat).length := fun g => rfl
  unfold ptD at k
  generalize wgD D off = D' at *
  have hr1 := inkD_r R' D.1.toNat
  simp +decide (maxSteps := 4000000) (disch := omega) only [k261_0, k261_2, k261_5, k261_6, k261_7, k261_r, k261_s, F_al0, F_il1, F_il2, F_il3, T_I, F_is4i, F_is4r, F_is4m, T_ft, F_il4, T_icge, T_getR, X_iald, T_iast, F_inc4i, F_inc4r, F_inc4m, T_goto, T_mul, T_add, F_is5i, F_is5r, F_is5m, F_il5, T_getI, J_ifne, X_bald, J_ifeq, F_inc5i, F_inc5r, F_inc5m, T_ret, c251, c254, FM F, TK, lt_run hn, le43, Int.le_refl, Int.lt_irrefl, Option.some.injEq, exists_eq_left', true_and, and_true, if_true, if_false, decide_eq_false_iff_not, decide_eq_true_eq, Nat.reduceAdd, Nat.reduceLeDiff, Nat.reduceLT, Int.reduceAdd, Int.reduceSub, Int.reduceMul, Int.reduceNeg, not_true_eq_false, not_false_eq_true]
  refine T_for (σ := Unit) (fun q _ => [.ref 704, .int (J d), .int (J l), .int (J fr), .int (J q), a_mk]) (fun q _ h' => Ef (fun a _ => a = 727) h1 h' ∧ ∀ p, 0 ≤ p → p < q → gA h' 727 p = J (inkD D' D.1.toNat p)) 0 1536 ?_ ?_ 0 () h1 (by omega) (by omega) ⟨Ef.refl, fun p _ _ => by omega⟩
  · rintro q _ h2 q0 q1 ⟨e2, c2⟩ ih
    have t1 : gA h2 726 q = J (inkD D' D.1.toNat q) := by
      rw [e2.g (by decide)]
      exact P1 q q0 q1
    rw [k261_1]
    simp +decide (maxSteps := 4000000) (disch := omega) only [k261_0, k261_2, k261_5, k261_6, k261_7, k261_r, k261_s, F_al0, F_il1, F_il2, F_il3, T_I, F_is4i, F_is4r, F_is4m, T_ft, F_il4, T_icge, T_getR, X_iald, T_iast, F_inc4i, F_inc4r, F_inc4m, T_goto, T_mul, T_add, F_is5i, F_is5r, F_is5m, F_il5, T_getI, J_ifne, X_bald, J_ifeq, F_inc5i, F_inc5r, F_inc5m, T_ret, c251, c254, FM F, ln_726, ln_727, t1, show ¬ 1536 ≤ q by omega, TK, lt_run hn, le43, Int.le_refl, Int.lt_irrefl, Option.some.injEq, exists_eq_left', true_and, and_true, if_true, if_false, decide_eq_false_iff_not, decide_eq_true_eq, Nat.reduceAdd, Nat.reduceLeDiff, Nat.reduceLT, Int.reduceAdd, Int.reduceSub, Int.reduceMul, Int.reduceNeg, not_true_eq_false, not_false_eq_true]
    refine ih () _ ⟨e2.sA rfl, fun p p0 p1 => ?_⟩
    by_cases e : p = q
    · rw [e, gs_s]
    · rw [gs_k q0 p0 e]
      exact c2 p p0 (by omega)
  rintro _ h2 ⟨e2, c2⟩
  rw [k261_1]
  simp +decide (maxSteps := 4000000) (disch := omega) only [k261_0, k261_2, k261_5, k261_6, k261_7, k261_r, k261_s, F_al0, F_il1, F_il2, F_il3, T_I, F_is4i, F_is4r, F_is4m, T_ft, F_il4, T_icge, T_getR, X_iald, T_iast, F_inc4i, F_inc4r, F_inc4m, T_goto, T_mul, T_add, F_is5i, F_is5r, F_is5m, F_il5, T_getI, J_ifne, X_bald, J_ifeq, F_inc5i, F_inc5r, F_inc5m, T_ret, c251, c254, FM F, TK, lt_run hn, le43, Int.le_refl, Int.lt_irrefl, Option.some.injEq, exists_eq_left', true_and, and_true, if_true, if_false, decide_eq_false_iff_not, decide_eq_true_eq, Nat.reduceAdd, Nat.reduceLeDiff, Nat.reduceLT, Int.reduceAdd, Int.reduceSub, Int.reduceMul, Int.reduceNeg, not_true_eq_false, not_false_eq_true]
  have P2 : PA h2 727 (ptF D' G 0) := fun q q0 q1 => by
    rw [pd]
    exact c2 q q0 q1
  refine T_for (σ := Value) (fun f v => [.ref 704, .int (J d), .int (J l), .int (J fr), .int (J f), v]) (fun f v h' => Ef Spm h h' ∧ PA h' 727 (ptF D' G (f - 6 * d).toNat) ∧ PA h' 726 (inkD D' D.1.toNat) ∧ WX h' D.1 D') (6 * d) (6 * d + G.1) ?_ ?_ (6 * d) a_mk h2 (by omega) (by omega) ⟨(e1.mono fun a k q => Or.inl q).trans (e2.mono fun a k q => Or.inr (Or.inr q)), by rw [show 6 * d - 6 * d = 0 by omega]; exact P2, P1.ef e2 (fun k => by decide), X1.ef e2 (fun a k q q' => by omega)⟩
  · rintro f v3 h3 f0 f1 ⟨e3, P3, I3, X3⟩ ih
    have MG3 := MG.ef e3 (fun x k h1 h2 q => by unfold Spm Sdr Scw Scf Swl at q; omega)
    have M3 := M.ef R hd.1 e3 (fun x k h1 h2 q => by unfold Spm Sdr Scw Scf Swl at q; omega)
    obtain ⟨i, hi⟩ : ∃ i, f = 6 * d + i := ⟨f - 6 * d, by omega⟩
    subst hi
    rw [show 6 * d + i - 6 * d = i by omega] at P3
    have d0 := MG3.1
    have d1 := MG3.2 i (by omega) (by omega)
    have rf := RG.2 i
    obtain ⟨rf1, rf2, rf3, rf4⟩ := id rf
    have ps := ptF_s (D := D') (G := G) (k := i) (by omega)
    rw [k261_3]
    simp +decide (maxSteps := 4000000) (disch := omega) only [k261_0, k261_2, k261_5, k261_6, k261_7, k261_r, k261_s, F_al0, F_il1, F_il2, F_il3, T_I, F_is4i, F_is4r, F_is4m, T_ft, F_il4, T_icge, T_getR, X_iald, T_iast, F_inc4i, F_inc4r, F_inc4m, T_goto, T_mul, T_add, F_is5i, F_is5r, F_is5m, F_il5, T_getI, J_ifne, X_bald, J_ifeq, F_inc5i, F_inc5r, F_inc5m, T_ret, c251, c254, FM F, d0, d1.1, d1.2.1, ln_719, ln_720, ln_721, ln_722, show ¬ 6 * d + G.1 ≤ 6 * d + i by omega, TK, lt_run hn, le43, Int.le_refl, Int.lt_irrefl, Option.some.injEq, exists_eq_left', true_and, and_true, if_true, if_false, decide_eq_false_iff_not, decide_eq_true_eq, Nat.reduceAdd, Nat.reduceLeDiff, Nat.reduceLT, Int.reduceAdd, Int.reduceSub, Int.reduceMul, Int.reduceNeg, not_true_eq_false, not_false_eq_true]
    refine w254 F hn (D' := D') hd rf1 rf2 R R' hm hp M3 X3 rf3 I3 hr1 rfl (fun h4 Mr o a1 a2 a3 a4 e4 => ?_)
    rw [show 48 * (G.2 i).2.1 + (G.2 i).1 = (G.2 i).2.1 * 48 + (G.2 i).1 by omega] at a3
    have w0 : ∀ q, wlI (inkD D' D.1.toNat) (endD D' D.1.toNat) (G.2 i).2.2.1 (endD D' D.1.toNat).length q = 0 → inkD D' D.1.toNat q = 0 := fun q => wlI_0 (q := q) _
    rw [← wd] at a3
    have e5 := rg_e a3
    have e6 : o = ro (wll D' (G.2 i).2.2.1) ((G.2 i).2.1 * 48 + (G.2 i).1) := bool_ext (a4.trans (Iff.trans ⟨fun ⟨p, p1, p2⟩ => ⟨p, (a3 p).mp p1, p2⟩, fun ⟨p, p1, p2⟩ => ⟨p, (a3 p).mpr p1, p2⟩⟩ ro_t.symm))
    have e4' : Ef Spm h3 h4 := e4.mono fun a k q => Or.inr (Or.inl q)
    have P4 := P3.ef e4 (fun k q => by unfold Scw Scf Swl at q; omega)
    have I4 := I3.ef e4 (fun k q => by unfold Scw Scf Swl at q; omega)
    have X4 := X3.ef e4 (fun a k q q' => by unfold Scw Scf Swl at q'; omega)
    have d2 := (d1.ef e4 (fun x h1 h2 q => by unfold Scw Scf Swl at q; omega)).2.2
    have o5 := a1.2
    have fn : ∀ q, ptF D' G (i + 1).toNat q = if o = false ∧ Mr q = true then (G.2 i).2.2.2 else ptF D' G i.toNat q := fun q => by
      rw [ps, e6, e5]
      rfl
    simp +decide (maxSteps := 4000000) (disch := omega) only [k261_0, k261_2, k261_5, k261_6, k261_7, k261_r, k261_s, F_al0, F_il1, F_il2, F_il3, T_I, F_is4i, F_is4r, F_is4m, T_ft, F_il4, T_icge, T_getR, X_iald, T_iast, F_inc4i, F_inc4r, F_inc4m, T_goto, T_mul, T_add, F_is5i, F_is5r, F_is5m, F_il5, T_getI, J_ifne, X_bald, J_ifeq, F_inc5i, F_inc5r, F_inc5m, T_ret, c251, c254, FM F, TK, lt_run hn, le43, Int.le_refl, Int.lt_irrefl, Option.some.injEq, exists_eq_left', true_and, and_true, if_true, if_false, decide_eq_false_iff_not, decide_eq_true_eq, Nat.reduceAdd, Nat.reduceLeDiff, Nat.reduceLT, Int.reduceAdd, Int.reduceSub, Int.reduceMul, Int.reduceNeg, not_true_eq_false, not_false_eq_true]
    cases oo : o with
    | true =>
      rw [oo, Bz_t] at o5
      rw [k261_4]
      simp +decide (maxSteps := 4000000) (disch := omega) only [k261_0, k261_2, k261_5, k261_6, k261_7, k261_r, k261_s, F_al0, F_il1, F_il2, F_il3, T_I, F_is4i, F_is4r, F_is4m, T_ft, F_il4, T_icge, T_getR, X_iald, T_iast, F_inc4i, F_inc4r, F_inc4m, T_goto, T_mul, T_add, F_is5i, F_is5r, F_is5m, F_il5, T_getI, J_ifne, X_bald, J_ifeq, F_inc5i, F_inc5r, F_inc5m, T_ret, c251, c254, FM F, o5, TK, lt_run hn, le43, Int.le_refl, Int.lt_irrefl, Option.some.injEq, exists_eq_left', true_and, and_true, if_true, if_false, decide_eq_false_iff_not, decide_eq_true_eq, Nat.reduceAdd, Nat.reduceLeDiff, Nat.reduceLT, Int.reduceAdd, Int.reduceSub, Int.reduceMul, Int.reduceNeg, not_true_eq_false, not_false_eq_true]
      refine ih _ h4 ⟨e3.trans e4', fun q q0 q1 => ?_, I4, X4⟩
      rw [show 6 * d + i + 1 - 6 * d = i + 1 by omega, fn, if_neg (fun z => by rw [oo] at z; cases z.1)]
      exact P4 q q0 q1
    | false =>
      rw [oo, Bz_f] at o5
      refine T_for (σ := Unit) (fun q _ => [.ref 704, .int (J d), .int (J l), .int (J fr), .int (J (6 * d + i)), .int (J q)]) (fun q _ h' => Ef (fun a _ => a = 727) h4 h' ∧ ∀ p, 0 ≤ p → p < 1536 → gA h' 727 p = J (if p < q then ptF D' G (i + 1).toNat p else ptF D' G i.toNat p)) 0 1536 ?_ ?_ 0 () h4 (by omega) (by omega) ⟨Ef.refl, fun p p0 p1 => by rw [if_neg (by omega)]; exact P4 p p0 p1⟩
      · rintro q _ h5 q0 q1 ⟨e5', c5⟩ ih2
        have t1 : gA h5 729 q = Bz (Mr q) := by
          rw [e5'.g (by decide)]
          exact a2 q q0 q1
        have t2 : gA h5 726 q = J (inkD D' D.1.toNat q) := by
          rw [e5'.g (by decide)]
          exact I4 q q0 q1
        have t3 : gA h5 723 (6 * d + i) = J (G.2 i).2.2.2 := by
          rw [e5'.g (by decide)]
          exact d2
        have t4 : h5 704 37 = J 0 := by
          rw [e5' 704 37 (by decide)]
          exact o5
        have nx : ∀ h6, (gA h6 727 q = J (ptF D' G (i + 1).toNat q)) → (∀ p, 0 ≤ p → p < 1536 → p ≠ q → gA h6 727 p = gA h5 727 p) → ∀ p, 0 ≤ p → p < 1536 → gA h6 727 p = J (if p < q + 1 then ptF D' G (i + 1).toNat p else ptF D' G i.toNat p) := fun h6 b1 b2 p p0 p1 => by
          by_cases e : p = q
          · rw [e, if_pos (by omega)]
            exact b1
          · rw [b2 p p0 p1 e, c5 p p0 p1]
            by_cases z : p < q
            · rw [if_pos z, if_pos (by omega)]
            · rw [if_neg z, if_neg (by omega)]
        cases mq : Mr q with
        | false =>
          rw [mq, Bz_f] at t1
          rw [k261_4]
          simp +decide (maxSteps := 4000000) (disch := omega) only [k261_0, k261_2, k261_5, k261_6, k261_7, k261_r, k261_s, F_al0, F_il1, F_il2, F_il3, T_I, F_is4i, F_is4r, F_is4m, T_ft, F_il4, T_icge, T_getR, X_iald, T_iast, F_inc4i, F_inc4r, F_inc4m, T_goto, T_mul, T_add, F_is5i, F_is5r, F_is5m, F_il5, T_getI, J_ifne, X_bald, J_ifeq, F_inc5i, F_inc5r, F_inc5m, T_ret, c251, c254, FM F, t1, t4, ln_729, true_or, or_true, show ¬ 1536 ≤ q by omega, TK, lt_run hn, le43, Int.le_refl, Int.lt_irrefl, Option.some.injEq, exists_eq_left', true_and, and_true, if_true, if_false, decide_eq_false_iff_not, decide_eq_true_eq, Nat.reduceAdd, Nat.reduceLeDiff, Nat.reduceLT, Int.reduceAdd, Int.reduceSub, Int.reduceMul, Int.reduceNeg, not_true_eq_false, not_false_eq_true]
          refine ih2 () h5 ⟨e5', nx h5 ?_ (fun _ _ _ _ => rfl)⟩
          rw [fn, if_neg (fun z => by rw [mq] at z; cases z.2), c5 q q0 q1, if_neg (by omega)]
        | true =>
          rw [mq, Bz_t] at t1
          have iz : inkD D' D.1.toNat q = 0 := w0 q (by rw [← wd]; exact ((a3 q).mp mq).f.2.2)
          rw [iz] at t2
          rw [k261_4]
          simp +decide (maxSteps := 4000000) (disch := omega) only [k261_0, k261_2, k261_5, k261_6, k261_7, k261_r, k261_s, F_al0, F_il1, F_il2, F_il3, T_I, F_is4i, F_is4r, F_is4m, T_ft, F_il4, T_icge, T_getR, X_iald, T_iast, F_inc4i, F_inc4r, F_inc4m, T_goto, T_mul, T_add, F_is5i, F_is5r, F_is5m, F_il5, T_getI, J_ifne, X_bald, J_ifeq, F_inc5i, F_inc5r, F_inc5m, T_ret, c251, c254, FM F, t1, t2, t3, t4, ln_723, ln_726, ln_727, ln_729, true_or, or_true, show ¬ 1536 ≤ q by omega, TK, lt_run hn, le43, Int.le_refl, Int.lt_irrefl, Option.some.injEq, exists_eq_left', true_and, and_true, if_true, if_false, decide_eq_false_iff_not, decide_eq_true_eq, Nat.reduceAdd, Nat.reduceLeDiff, Nat.reduceLT, Int.reduceAdd, Int.reduceSub, Int.reduceMul, Int.reduceNeg, not_true_eq_false, not_false_eq_true]
          refine ih2 () _ ⟨e5'.sA rfl, nx _ ?_ (fun p p0 p1 z => gs_k q0 p0 z)⟩
          rw [gs_s, fn, if_pos ⟨oo, mq⟩]
      · rintro _ h5 ⟨e5', c5⟩
        rw [k261_4]
        simp +decide (maxSteps := 4000000) (disch := omega) only [k261_0, k261_2, k261_5, k261_6, k261_7, k261_r, k261_s, F_al0, F_il1, F_il2, F_il3, T_I, F_is4i, F_is4r, F_is4m, T_ft, F_il4, T_icge, T_getR, X_iald, T_iast, F_inc4i, F_inc4r, F_inc4m, T_goto, T_mul, T_add, F_is5i, F_is5r, F_is5m, F_il5, T_getI, J_ifne, X_bald, J_ifeq, F_inc5i, F_inc5r, F_inc5m, T_ret, c251, c254, FM F, TK, lt_run hn, le43, Int.le_refl, Int.lt_irrefl, Option.some.injEq, exists_eq_left', true_and, and_true, if_true, if_false, decide_eq_false_iff_not, decide_eq_true_eq, Nat.reduceAdd, Nat.reduceLeDiff, Nat.reduceLT, Int.reduceAdd, Int.reduceSub, Int.reduceMul, Int.reduceNeg, not_true_eq_false, not_false_eq_true]
        refine ih _ h5 ⟨(e3.trans e4').trans (e5'.mono fun a k q => Or.inr (Or.inr q)), fun q q0 q1 => ?_, I4.ef e5' (fun k => by decide), X4.ef e5' (fun a k q q' => by omega)⟩
        rw [show 6 * d + i + 1 - 6 * d = i + 1 by omega, c5 q q0 q1, if_pos q1]
  · rintro v3 h3 ⟨e3, P3, I3, X3⟩
    have d0 := (MG.ef e3 (fun x k h1 h2 q => by unfold Spm Sdr Scw Scf Swl at q; omega)).1
    rw [show 6 * d + G.1 - 6 * d = G.1 by omega] at P3
    rw [k261_3]
    simp +decide (maxSteps := 4000000) (disch := omega) only [k261_0, k261_2, k261_5, k261_6, k261_7, k261_r, k261_s, F_al0, F_il1, F_il2, F_il3, T_I, F_is4i, F_is4r, F_is4m, T_ft, F_il4, T_icge, T_getR, X_iald, T_iast, F_inc4i, F_inc4r, F_inc4m, T_goto, T_mul, T_add, F_is5i, F_is5r, F_is5m, F_il5, T_getI, J_ifne, X_bald, J_ifeq, F_inc5i, F_inc5r, F_inc5m, T_ret, c251, c254, FM F, d0, ln_719, TK, lt_run hn, le43, Int.le_refl, Int.lt_irrefl, Option.some.injEq, exists_eq_left', true_and, and_true, if_true, if_false, decide_eq_false_iff_not, decide_eq_true_eq, Nat.reduceAdd, Nat.reduceLeDiff, Nat.reduceLT, Int.reduceAdd, Int.reduceSub, Int.reduceMul, Int.reduceNeg, not_true_eq_false, not_false_eq_true]
    exact k h3 P3 e3
theorem Ppaint (F : FH hr) (hn : 775 ≤ n) (C3 : Cp3 h hr) (C4 : Cp4 h) (x y z : Int32) : Pr2 E 155 260 [.int x, .int y, .int z] h hr n (Po (fun _ => True) 0 0 h hr n) := by
  obtain ⟨D, ρ, C⟩ := C3
  obtain ⟨G, C4⟩ := C4
  obtain ⟨a, ha, ha', rfl⟩ := J_of x
  obtain ⟨b, hb, hb', rfl⟩ := J_of y
  obtain ⟨c, hc, hc', rfl⟩ := J_of z
  unfold Pr2
  by_cases g1 : 0 ≤ a ∧ a ≤ 15
  case neg =>
    simp +decide (maxSteps := 4000000) (disch := omega) only [k155_0, k155_1, k155_2, k155_r, k155_s, F_il1, J_ifeq, F_il2, F_il3, J_ifne, T_ft, T_I, T_ret, F_al0, T_getR, X_aald, X_iald, c37, c137, c145, c151, ↓s137, ↓s145, ↓s151, FX F, g1, TK, lt_run hn, le43, Int.le_refl, Int.lt_irrefl, Option.some.injEq, exists_eq_left', true_and, and_true, if_true, if_false, decide_eq_false_iff_not, decide_eq_true_eq, Nat.reduceAdd, Nat.reduceLeDiff, Nat.reduceLT, Int.reduceAdd, Int.reduceSub, Int.reduceMul, Int.reduceNeg, not_true_eq_false, not_false_eq_true]
    refine ⟨_, rfl, ?_⟩
    simp +decide (maxSteps := 4000000) (disch := omega) only [k260_0, k260_1, k260_2, k260_r, k260_s, F_il1, J_ifeq, F_il2, F_il3, J_ifne, T_ft, T_I, T_ret, F_al0, T_getR, T_mul, T_add, X_iald, c218, c237, c261, ↓s218, ↓s237, FM F, g1, TK, lt_run hn, le43, Int.le_refl, Int.lt_irrefl, Option.some.injEq, exists_eq_left', true_and, and_true, if_true, if_false, decide_eq_false_iff_not, decide_eq_true_eq, Nat.reduceAdd, Nat.reduceLeDiff, Nat.reduceLT, Int.reduceAdd, Int.reduceSub, Int.reduceMul, Int.reduceNeg, not_true_eq_false, not_false_eq_true]
    first | exact ⟨rfl, ⟨trivial, Kp.refl⟩, rfl, rfl⟩ | exact ⟨⟨trivial, Kp.refl⟩, rfl, rfl⟩ | exact ⟨trivial, Kp.refl⟩
  by_cases g2 : (0 ≤ b ∧ b ≤ 47) ∧ 0 ≤ c ∧ c ≤ 31
  case neg =>
    simp +decide (maxSteps := 4000000) (disch := omega) only [k155_0, k155_1, k155_2, k155_r, k155_s, F_il1, J_ifeq, F_il2, F_il3, J_ifne, T_ft, T_I, T_ret, F_al0, T_getR, X_aald, X_iald, c37, c137, c145, c151, ↓s137, ↓s145, ↓s151, FX F, g1, g2, TK, lt_run hn, le43, Int.le_refl, Int.lt_irrefl, Option.some.injEq, exists_eq_left', true_and, and_true, if_true, if_false, decide_eq_false_iff_not, decide_eq_true_eq, Nat.reduceAdd, Nat.reduceLeDiff, Nat.reduceLT, Int.reduceAdd, Int.reduceSub, Int.reduceMul, Int.reduceNeg, not_true_eq_false, not_false_eq_true]
    refine ⟨_, rfl, ?_⟩
    simp +decide (maxSteps := 4000000) (disch := omega) only [k260_0, k260_1, k260_2, k260_r, k260_s, F_il1, J_ifeq, F_il2, F_il3, J_ifne, T_ft, T_I, T_ret, F_al0, T_getR, T_mul, T_add, X_iald, c218, c237, c261, ↓s218, ↓s237, FM F, g1, g2, TK, lt_run hn, le43, Int.le_refl, Int.lt_irrefl, Option.some.injEq, exists_eq_left', true_and, and_true, if_true, if_false, decide_eq_false_iff_not, decide_eq_true_eq, Nat.reduceAdd, Nat.reduceLeDiff, Nat.reduceLT, Int.reduceAdd, Int.reduceSub, Int.reduceMul, Int.reduceNeg, not_true_eq_false, not_false_eq_true]
    first | exact ⟨rfl, ⟨trivial, Kp.refl⟩, rfl, rfl⟩ | exact ⟨⟨trivial, Kp.refl⟩, rfl, rfl⟩ | exact ⟨trivial, Kp.refl⟩
  obtain ⟨P, c1, m1⟩ := C.2 a g1.1 (by omega)
  obtain ⟨c2, m2⟩ := C4.2 a g1.1 (by omega)
  have r := C.1 a
  have rG := C4.1 a
  have x1 := X48 F g1.1 (show a < 16 by omega)
  have B := DB_d g1.1 (show a < 16 by omega)
  have x2 := B.x E F
  have x3 := B.r
  simp +decide (maxSteps := 4000000) (disch := omega) only [k155_0, k155_1, k155_2, k155_r, k155_s, F_il1, J_ifeq, F_il2, F_il3, J_ifne, T_ft, T_I, T_ret, F_al0, T_getR, X_aald, X_iald, c37, c137, c145, c151, ↓s137, ↓s145, ↓s151, FX F, g1, g2, x1, x2, kd_48, ln_48, TK, lt_run hn, le43, Int.le_refl, Int.lt_irrefl, Option.some.injEq, exists_eq_left', true_and, and_true, if_true, if_false, decide_eq_false_iff_not, decide_eq_true_eq, Nat.reduceAdd, Nat.reduceLeDiff, Nat.reduceLT, Int.reduceAdd, Int.reduceSub, Int.reduceMul, Int.reduceNeg, not_true_eq_false, not_false_eq_true]
  refine w37 F hn B P r c1 rG c2 (fun h1 P1 e1 => ?_)
  have t1 := P1 (c * 48 + b) (by omega) (by omega)
  simp +decide (maxSteps := 4000000) (disch := omega) only [k155_0, k155_1, k155_2, k155_r, k155_s, F_il1, J_ifeq, F_il2, F_il3, J_ifne, T_ft, T_I, T_ret, F_al0, T_getR, X_aald, X_iald, c37, c137, c145, c151, ↓s137, ↓s145, ↓s151, FX F, t1, ln_80, TK, lt_run hn, le43, Int.le_refl, Int.lt_irrefl, Option.some.injEq, exists_eq_left', true_and, and_true, if_true, if_false, decide_eq_false_iff_not, decide_eq_true_eq, Nat.reduceAdd, Nat.reduceLeDiff, Nat.reduceLT, Int.reduceAdd, Int.reduceSub, Int.reduceMul, Int.reduceNeg, not_true_eq_false, not_false_eq_true]
  refine ⟨_, rfl, ?_⟩
  have m3 := m1.ef r g1.1 e1 (fun x k h1 h2 q => by unfold Scv at q; omega)
  have m4 := m2.ef e1 (fun x k h1 h2 q => by unfold Scv at q; omega)
  simp +decide (maxSteps := 4000000) (disch := omega) only [k260_0, k260_1, k260_2, k260_r, k260_s, F_il1, J_ifeq, F_il2, F_il3, J_ifne, T_ft, T_I, T_ret, F_al0, T_getR, T_mul, T_add, X_iald, c218, c237, c261, ↓s218, ↓s237, FM F, g1, g2, TK, lt_run hn, le43, Int.le_refl, Int.lt_irrefl, Option.some.injEq, exists_eq_left', true_and, and_true, if_true, if_false, decide_eq_false_iff_not, decide_eq_true_eq, Nat.reduceAdd, Nat.reduceLeDiff, Nat.reduceLT, Int.reduceAdd, Int.reduceSub, Int.reduceMul, Int.reduceNeg, not_true_eq_false, not_false_eq_true]
  refine w261 F hn (by omega) r (W0 rfl) m3 rG m4 (fun h3 P3 e3 => ?_)
  rw [wgD_0 r] at P3
  have t2 := P3 (48 * c + b) (by omega) (by omega)
  rw [show 48 * c + b = c * 48 + b by omega] at t2
  have ee : Ef (fun x k => sys x k = 0) h h3 := (e1.mono fun x k q => scv0 q).trans (e3.mono fun x k q => spm0 q)
  simp +decide (maxSteps := 4000000) (disch := omega) only [k260_0, k260_1, k260_2, k260_r, k260_s, F_il1, J_ifeq, F_il2, F_il3, J_ifne, T_ft, T_I, T_ret, F_al0, T_getR, T_mul, T_add, X_iald, c218, c237, c261, ↓s218, ↓s237, FM F, show 48 * c + b = c * 48 + b by omega, t2, ln_727, TK, lt_run hn, le43, Int.le_refl, Int.lt_irrefl, Option.some.injEq, exists_eq_left', true_and, and_true, if_true, if_false, decide_eq_false_iff_not, decide_eq_true_eq, Nat.reduceAdd, Nat.reduceLeDiff, Nat.reduceLT, Int.reduceAdd, Int.reduceSub, Int.reduceMul, Int.reduceNeg, not_true_eq_false, not_false_eq_true]
  exact ⟨⟨trivial, Kp.of ee (fun x k q => Or.inl q)⟩, rfl, rfl⟩
end PT
