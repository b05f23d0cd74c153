/-! flicker -/
section FK
variable {E : AEn} {h h' : AHi} {hr : AHr} {n : Nat} {Q : ARs → Prop} {e : PEn} {f i : Int}
def flk (A B C : Pic) (k : Nat) : Int := acc (fun q => if B q ≠ A q ∧ A q = C q then 1 else 0) k
theorem flk_s {A B C : Pic} {q : Int} (h : 0 ≤ q) : flk A B C (q + 1).toNat = flk A B C q.toNat + if B q ≠ A q ∧ A q = C q then 1 else 0 := acc_s _ h
theorem w109 (F : FH hr) (hn : 775 ≤ n) {A B C : Pic} {g : Nat} (G : AR E g) (P1 : PA h 141 A) (P2 : PA h 142 B) (P3 : PA h g C) (R1 : pcR A) (R2 : pcR B) (R3 : pcR C) (k : Q (some (.int (J (flk A B C 1536))), h, hr, n)) : Sp E 109 [.ref 113, .ref g] h hr n Q := by
  obtain ⟨g1, g2, g3, g4⟩ := G
  simp +decide (maxSteps := 4000000) (disch := omega) only [k109_0, k109_2, k109_3, k109_r, k109_s, T_I, F_is2i, F_is2r, F_is2m, F_is3i, F_is3r, F_is3m, T_ft, F_il3, T_icge, F_al0, T_getR, X_iald, T_iceq, F_al1, J_icne, F_inc2i, F_inc2r, F_inc2m, F_inc3i, F_inc3r, F_inc3m, T_goto, F_il2, T_ret, ↓reduceIte, TK, lt_run hn, le43, Int.le_refl, Int.lt_irrefl, Option.some.injEq, exists_eq_left', true_and, and_true, if_true, if_false, decide_eq_false_iff_not, decide_eq_true_eq, Nat.reduceAdd, Nat.reduceLeDiff, Nat.reduceLT, Int.reduceAdd, Int.reduceSub, Int.reduceMul, Int.reduceNeg, not_true_eq_false, not_false_eq_true]
  refine T_for (σ := Unit) (fun q _ => [.ref 113, .ref g, .int (J (flk A B C q.toNat)), .int (J q)]) (fun _ _ h' => h' = h) 0 1536 ?_ ?_ 0 () h (by omega) (by omega) rfl
  · rintro q _ h1 q0 q1 rfl ih
    have d1 := P1 q q0 q1
    have d2 := P2 q q0 q1
    have d3 := P3 q q0 q1
    have r1 := R1 q q0 q1
    have r2 := R2 q q0 q1
    have r3 := R3 q q0 q1
    have ih' := ih () _ rfl
    rw [flk_s q0] at ih'
    by_cases z1 : B q = A q
    · rw [if_neg (fun w => w.1 z1), Int.add_zero] at ih'
      rw [k109_1]
      simp +decide (maxSteps := 4000000) (disch := omega) only [k109_0, k109_2, k109_3, k109_r, k109_s, T_I, F_is2i, F_is2r, F_is2m, F_is3i, F_is3r, F_is3m, T_ft, F_il3, T_icge, F_al0, T_getR, X_iald, T_iceq, F_al1, J_icne, F_inc2i, F_inc2r, F_inc2m, F_inc3i, F_inc3r, F_inc3m, T_goto, F_il2, T_ret, FX F, g1, g2, d1, d2, d3, eq_true z1, ln_141, ln_142, show ¬ 1536 ≤ q by omega, ↓reduceIte, TK, lt_run hn, le43, Int.le_refl, Int.lt_irrefl, Option.some.injEq, exists_eq_left', true_and, and_true, if_true, if_false, decide_eq_false_iff_not, decide_eq_true_eq, Nat.reduceAdd, Nat.reduceLeDiff, Nat.reduceLT, Int.reduceAdd, Int.reduceSub, Int.reduceMul, Int.reduceNeg, not_true_eq_false, not_false_eq_true]
      exact ih'
    · by_cases z2 : A q = C q
      · rw [if_pos ⟨z1, z2⟩] at ih'
        rw [k109_1]
        simp +decide (maxSteps := 4000000) (disch := omega) only [k109_0, k109_2, k109_3, k109_r, k109_s, T_I, F_is2i, F_is2r, F_is2m, F_is3i, F_is3r, F_is3m, T_ft, F_il3, T_icge, F_al0, T_getR, X_iald, T_iceq, F_al1, J_icne, F_inc2i, F_inc2r, F_inc2m, F_inc3i, F_inc3r, F_inc3m, T_goto, F_il2, T_ret, FX F, g1, g2, d1, d2, d3, z1, eq_true z2, ln_141, ln_142, show ¬ 1536 ≤ q by omega, ↓reduceIte, TK, lt_run hn, le43, Int.le_refl, Int.lt_irrefl, Option.some.injEq, exists_eq_left', true_and, and_true, if_true, if_false, decide_eq_false_iff_not, decide_eq_true_eq, Nat.reduceAdd, Nat.reduceLeDiff, Nat.reduceLT, Int.reduceAdd, Int.reduceSub, Int.reduceMul, Int.reduceNeg, not_true_eq_false, not_false_eq_true]
        exact ih'
      · rw [if_neg (fun w => z2 w.2), Int.add_zero] at ih'
        rw [k109_1]
        simp +decide (maxSteps := 4000000) (disch := omega) only [k109_0, k109_2, k109_3, k109_r, k109_s, T_I, F_is2i, F_is2r, F_is2m, F_is3i, F_is3r, F_is3m, T_ft, F_il3, T_icge, F_al0, T_getR, X_iald, T_iceq, F_al1, J_icne, F_inc2i, F_inc2r, F_inc2m, F_inc3i, F_inc3r, F_inc3m, T_goto, F_il2, T_ret, FX F, g1, g2, d1, d2, d3, z1, z2, ln_141, ln_142, show ¬ 1536 ≤ q by omega, ↓reduceIte, TK, lt_run hn, le43, Int.le_refl, Int.lt_irrefl, Option.some.injEq, exists_eq_left', true_and, and_true, if_true, if_false, decide_eq_false_iff_not, decide_eq_true_eq, Nat.reduceAdd, Nat.reduceLeDiff, Nat.reduceLT, Int.reduceAdd, Int.reduceSub, Int.reduceMul, Int.reduceNeg, not_true_eq_false, not_false_eq_true]
        exact ih'
  · rintro _ h1 rfl
    rw [k109_1]
    simp +decide (maxSteps := 4000000) (disch := omega) only [k109_0, k109_2, k109_3, k109_r, k109_s, T_I, F_is2i, F_is2r, F_is2m, F_is3i, F_is3r, F_is3m, T_ft, F_il3, T_icge, F_al0, T_getR, X_iald, T_iceq, F_al1, J_icne, F_inc2i, F_inc2r, F_inc2m, F_inc3i, F_inc3r, F_inc3m, T_goto, F_il2, T_ret, ↓reduceIte, TK, lt_run hn, le43, Int.le_refl, Int.lt_irrefl, Option.some.injEq, exists_eq_left', true_and, and_true, if_true, if_false, decide_eq_false_iff_not, decide_eq_true_eq, Nat.reduceAdd, Nat.reduceLeDiff, Nat.reduceLT, Int.reduceAdd, Int.reduceSub, Int.reduceMul, Int.reduceNeg, not_true_eq_false, not_false_eq_true]
    exact k
theorem Pflicker (F : FH hr) (hn : 775 ≤ n) (C3 : Cp3 h hr) (C4 : Cp4 h) (C5 : Cp5 h) (C6 : Cp6 h) (C7 : Cp7 h) (C8 : Cp8 h) (C15 : Cp15 h) (C16 : Cp16 h hr) (x y : Int32) : Pr2 E 205 334 [.int x, .int y] h hr n (Po (fun _ => True) 0 0 h hr n) := by
  obtain ⟨e, W⟩ := PW.mk' C3 C4 C5 C6 C7 C8 C15 C16
  obtain ⟨a, ha, ha', rfl⟩ := J_of x
  obtain ⟨b, hb, hb', rfl⟩ := J_of y
  unfold Pr2
  by_cases g1 : 0 ≤ a ∧ a ≤ e.m - 1
  case neg =>
    simp +decide (maxSteps := 4000000) (disch := omega) only [k205_0, k205_1, k205_2, k205_r, k205_s, F_al0, F_il1, J_ifeq, F_il2, T_I, J_ifne, T_ft, T_ret, T_sub, T_getR, J_cp, T_add, c109, c138, c196, c197, ↓s138, FX F, ↓s196 F hn W, ↓s324 F hn W, g1, ↓reduceIte, TK, lt_run hn, le43, Int.le_refl, Int.lt_irrefl, Option.some.injEq, exists_eq_left', true_and, and_true, if_true, if_false, decide_eq_false_iff_not, decide_eq_true_eq, Nat.reduceAdd, Nat.reduceLeDiff, Nat.reduceLT, Int.reduceAdd, Int.reduceSub, Int.reduceMul, Int.reduceNeg, not_true_eq_false, not_false_eq_true]
    refine ⟨_, rfl, ?_⟩
    simp +decide (maxSteps := 4000000) (disch := omega) only [k334_0, k334_1, k334_2, k334_4, k334_6, k334_8, k334_9, k334_10, k334_r, k334_s, F_al0, F_il1, J_ifeq, F_il2, T_I, J_ifne, T_ft, T_ret, T_sub, F_is3i, F_is3r, F_is3m, F_il3, T_icge, T_getR, T_mul, T_add, X_iald, T_iast, F_inc3i, F_inc3r, F_inc3m, T_goto, F_is4i, F_is4r, F_is4m, F_il4, T_iceq, J_icne, F_inc4i, F_inc4r, F_inc4m, c219, c324, c325, ↓s219, FM F, ↓s196 F hn W, ↓s324 F hn W, g1, ↓reduceIte, TK, lt_run hn, le43, Int.le_refl, Int.lt_irrefl, Option.some.injEq, exists_eq_left', true_and, and_true, if_true, if_false, decide_eq_false_iff_not, decide_eq_true_eq, Nat.reduceAdd, Nat.reduceLeDiff, Nat.reduceLT, Int.reduceAdd, Int.reduceSub, Int.reduceMul, Int.reduceNeg, not_true_eq_false, not_false_eq_true]
    first | exact ⟨rfl, ⟨trivial, Kp.refl⟩, rfl, rfl⟩ | exact ⟨⟨trivial, Kp.refl⟩, rfl, rfl⟩ | exact ⟨trivial, Kp.refl⟩
  by_cases g2 : 1 ≤ b ∧ b ≤ 118
  case neg =>
    simp +decide (maxSteps := 4000000) (disch := omega) only [k205_0, k205_1, k205_2, k205_r, k205_s, F_al0, F_il1, J_ifeq, F_il2, T_I, J_ifne, T_ft, T_ret, T_sub, T_getR, J_cp, T_add, c109, c138, c196, c197, ↓s138, FX F, ↓s196 F hn W, ↓s324 F hn W, g1, g2, ↓reduceIte, TK, lt_run hn, le43, Int.le_refl, Int.lt_irrefl, Option.some.injEq, exists_eq_left', true_and, and_true, if_true, if_false, decide_eq_false_iff_not, decide_eq_true_eq, Nat.reduceAdd, Nat.reduceLeDiff, Nat.reduceLT, Int.reduceAdd, Int.reduceSub, Int.reduceMul, Int.reduceNeg, not_true_eq_false, not_false_eq_true]
    refine ⟨_, rfl, ?_⟩
    simp +decide (maxSteps := 4000000) (disch := omega) only [k334_0, k334_1, k334_2, k334_4, k334_6, k334_8, k334_9, k334_10, k334_r, k334_s, F_al0, F_il1, J_ifeq, F_il2, T_I, J_ifne, T_ft, T_ret, T_sub, F_is3i, F_is3r, F_is3m, F_il3, T_icge, T_getR, T_mul, T_add, X_iald, T_iast, F_inc3i, F_inc3r, F_inc3m, T_goto, F_is4i, F_is4r, F_is4m, F_il4, T_iceq, J_icne, F_inc4i, F_inc4r, F_inc4m, c219, c324, c325, ↓s219, FM F, ↓s196 F hn W, ↓s324 F hn W, g1, g2, ↓reduceIte, TK, lt_run hn, le43, Int.le_refl, Int.lt_irrefl, Option.some.injEq, exists_eq_left', true_and, and_true, if_true, if_false, decide_eq_false_iff_not, decide_eq_true_eq, Nat.reduceAdd, Nat.reduceLeDiff, Nat.reduceLT, Int.reduceAdd, Int.reduceSub, Int.reduceMul, Int.reduceNeg, not_true_eq_false, not_false_eq_true]
    first | exact ⟨rfl, ⟨trivial, Kp.refl⟩, rfl, rfl⟩ | exact ⟨⟨trivial, Kp.refl⟩, rfl, rfl⟩ | exact ⟨trivial, Kp.refl⟩
  have m1 := W.2.2.2.2.2.2.2.1
  have pr := fun f => PN_r W f g1.1 (show a < e.m by omega)
  have x1 := X127 E F g1.1 (show a < 10 by omega)
  have G := AR_127 E F g1.1 (show a < 10 by omega)
  have l1 := ln_141 E
  have l2 := ln_142 E
  have cp : ∀ {k1 : AHi} {d : Nat} {A : Pic}, d ≠ 128 + a.toNat → PA k1 (128 + a.toNat) A → PA (cpA k1 (128 + a.toNat) 0 d 0 1536) d A := fun {k1 d A} _ P q q0 q1 => by
    rw [cp_g (by decide) (by decide) (by decide) q0, if_pos (by omega), show 0 + (q - 0) = q by omega]
    exact P q q0 q1
  have z41 : ∀ k, Zs 141 k ∧ sys 141 k = 0 := fun k => ⟨Or.inl rfl, rfl⟩
  have z42 : ∀ k, Zs 142 k ∧ sys 142 k = 0 := fun k => ⟨Or.inl rfl, rfl⟩
  have ns : ∀ {x k : Nat}, x = 141 ∨ x = 142 → ¬ Sps x k := fun {x k} w z => by
    unfold Sps at z
    omega
  simp +decide (maxSteps := 4000000) (disch := omega) only [k205_0, k205_1, k205_2, k205_r, k205_s, F_al0, F_il1, J_ifeq, F_il2, T_I, J_ifne, T_ft, T_ret, T_sub, T_getR, J_cp, T_add, c109, c138, c196, c197, ↓s138, ↓s196 F hn W, g1, g2, ↓reduceIte, TK, lt_run hn, le43, Int.le_refl, Int.lt_irrefl, Option.some.injEq, exists_eq_left', true_and, and_true, if_true, if_false, decide_eq_false_iff_not, decide_eq_true_eq, Nat.reduceAdd, Nat.reduceLeDiff, Nat.reduceLT, Int.reduceAdd, Int.reduceSub, Int.reduceMul, Int.reduceNeg, not_true_eq_false, not_false_eq_true]
  refine w197 F hn W (f := b - 1) (by omega) (by omega) (fun k1 e1 c1 => ?_)
  have K1 : Kp 0 0 h k1 := e1.mono fun x k q => Or.inl (Sps_0 q)
  simp +decide (maxSteps := 4000000) (disch := omega) only [k205_0, k205_1, k205_2, k205_r, k205_s, F_al0, F_il1, J_ifeq, F_il2, T_I, J_ifne, T_ft, T_ret, T_sub, T_getR, J_cp, T_add, c109, c138, c196, c197, ↓s138, ↓s196, FX F, x1, kd_141, ↓reduceIte, TK, lt_run hn, le43, Int.le_refl, Int.lt_irrefl, Option.some.injEq, exists_eq_left', true_and, and_true, if_true, if_false, decide_eq_false_iff_not, decide_eq_true_eq, Nat.reduceAdd, Nat.reduceLeDiff, Nat.reduceLT, Int.reduceAdd, Int.reduceSub, Int.reduceMul, Int.reduceNeg, not_true_eq_false, not_false_eq_true]
  have P1 := cp (d := 141) (by omega) c1
  have K2 : Kp 0 0 h (cpA k1 (128 + a.toNat) 0 141 0 1536) := cp_e K1 (fun k => Or.inl (z41 k).2)
  generalize cpA k1 (128 + a.toNat) 0 141 0 1536 = k2 at *
  have W2 : PW k2 hr e := W.z (Ef.mono K2 fun x k q => Or.inl (by omega))
  refine w197 F hn W2 (f := b) (by omega) (by omega) (fun k3 e3 c3 => ?_)
  have P1' := P1.ef e3 (fun k => ns (Or.inl rfl))
  have K3 : Kp 0 0 h k3 := Ef.trans K2 (e3.mono fun x k q => Or.inl (Sps_0 q))
  simp +decide (maxSteps := 4000000) (disch := omega) only [k205_0, k205_1, k205_2, k205_r, k205_s, F_al0, F_il1, J_ifeq, F_il2, T_I, J_ifne, T_ft, T_ret, T_sub, T_getR, J_cp, T_add, c109, c138, c196, c197, ↓s138, ↓s196, FX F, x1, kd_142, ↓reduceIte, TK, lt_run hn, le43, Int.le_refl, Int.lt_irrefl, Option.some.injEq, exists_eq_left', true_and, and_true, if_true, if_false, decide_eq_false_iff_not, decide_eq_true_eq, Nat.reduceAdd, Nat.reduceLeDiff, Nat.reduceLT, Int.reduceAdd, Int.reduceSub, Int.reduceMul, Int.reduceNeg, not_true_eq_false, not_false_eq_true]
  have P2 := cp (d := 142) (by omega) c3
  have P1'' : PA (cpA k3 (128 + a.toNat) 0 142 0 1536) 141 (PN e (b - 1) a) := fun q q0 q1 => by rw [cp_go (by decide)]; exact P1' q q0 q1
  have K4 : Kp 0 0 h (cpA k3 (128 + a.toNat) 0 142 0 1536) := cp_e K3 (fun k => Or.inl (z42 k).2)
  generalize cpA k3 (128 + a.toNat) 0 142 0 1536 = k4 at *
  have W4 : PW k4 hr e := W.z (Ef.mono K4 fun x k q => Or.inl (by omega))
  refine w197 F hn W4 (f := b + 1) (by omega) (by omega) (fun k5 e5 c5 => ?_)
  have K5 : Kp 0 0 h k5 := Ef.trans K4 (e5.mono fun x k q => Or.inl (Sps_0 q))
  have W5 : PW k5 hr e := W.z (Ef.mono K5 fun x k q => Or.inl (by omega))
  simp +decide (maxSteps := 4000000) (disch := omega) only [k205_0, k205_1, k205_2, k205_r, k205_s, F_al0, F_il1, J_ifeq, F_il2, T_I, J_ifne, T_ft, T_ret, T_sub, T_getR, J_cp, T_add, c109, c138, c196, c197, ↓s138, ↓s196, x1, ↓reduceIte, TK, lt_run hn, le43, Int.le_refl, Int.lt_irrefl, Option.some.injEq, exists_eq_left', true_and, and_true, if_true, if_false, decide_eq_false_iff_not, decide_eq_true_eq, Nat.reduceAdd, Nat.reduceLeDiff, Nat.reduceLT, Int.reduceAdd, Int.reduceSub, Int.reduceMul, Int.reduceNeg, not_true_eq_false, not_false_eq_true]
  refine w109 F hn G (P1''.ef e5 (fun k => ns (Or.inl rfl))) (P2.ef e5 (fun k => ns (Or.inr rfl))) c5 (pr (b - 1)) (pr b) (pr (b + 1)) ?_
  simp +decide (maxSteps := 4000000) (disch := omega) only [k205_0, k205_1, k205_2, k205_r, k205_s, F_al0, F_il1, J_ifeq, F_il2, T_I, J_ifne, T_ft, T_ret, T_sub, T_getR, J_cp, T_add, c109, c138, c196, c197, ↓s138, ↓s196, ↓reduceIte, TK, lt_run hn, le43, Int.le_refl, Int.lt_irrefl, Option.some.injEq, exists_eq_left', true_and, and_true, if_true, if_false, decide_eq_false_iff_not, decide_eq_true_eq, Nat.reduceAdd, Nat.reduceLeDiff, Nat.reduceLT, Int.reduceAdd, Int.reduceSub, Int.reduceMul, Int.reduceNeg, not_true_eq_false, not_false_eq_true]
  refine ⟨_, rfl, ?_⟩
  have nq : ∀ {x k : Nat}, x = 769 ∨ x = 770 → ¬ Ssh x k := fun {x k} w z => by
    unfold Ssh Spm Sdr Scw Scf Swl at z
    omega
  simp +decide (maxSteps := 4000000) (disch := omega) only [k334_0, k334_1, k334_2, k334_4, k334_6, k334_8, k334_9, k334_10, k334_r, k334_s, F_al0, F_il1, J_ifeq, F_il2, T_I, J_ifne, T_ft, T_ret, T_sub, F_is3i, F_is3r, F_is3m, F_il3, T_icge, T_getR, T_mul, T_add, X_iald, T_iast, F_inc3i, F_inc3r, F_inc3m, T_goto, F_is4i, F_is4r, F_is4m, F_il4, T_iceq, J_icne, F_inc4i, F_inc4r, F_inc4m, c219, c324, c325, ↓s219, ↓s324 F hn W5, g1, g2, ↓reduceIte, TK, lt_run hn, le43, Int.le_refl, Int.lt_irrefl, Option.some.injEq, exists_eq_left', true_and, and_true, if_true, if_false, decide_eq_false_iff_not, decide_eq_true_eq, Nat.reduceAdd, Nat.reduceLeDiff, Nat.reduceLT, Int.reduceAdd, Int.reduceSub, Int.reduceMul, Int.reduceNeg, not_true_eq_false, not_false_eq_true]
  refine w325 F hn W5 (f := b - 1) (by omega) (by omega) (fun k6 e6 c6 => ?_)
  have K6 : Kp 0 0 h k6 := Ef.trans K5 (e6.mono fun x k q => Or.inl (Ssh_0 q))
  simp +decide (maxSteps := 4000000) (disch := omega) only [k334_0, k334_1, k334_2, k334_4, k334_6, k334_8, k334_9, k334_10, k334_r, k334_s, F_al0, F_il1, J_ifeq, F_il2, T_I, J_ifne, T_ft, T_ret, T_sub, F_is3i, F_is3r, F_is3m, F_il3, T_icge, T_getR, T_mul, T_add, X_iald, T_iast, F_inc3i, F_inc3r, F_inc3m, T_goto, F_is4i, F_is4r, F_is4m, F_il4, T_iceq, J_icne, F_inc4i, F_inc4r, F_inc4m, c219, c324, c325, ↓s219, ↓s324, ↓reduceIte, TK, lt_run hn, le43, Int.le_refl, Int.lt_irrefl, Option.some.injEq, exists_eq_left', true_and, and_true, if_true, if_false, decide_eq_false_iff_not, decide_eq_true_eq, Nat.reduceAdd, Nat.reduceLeDiff, Nat.reduceLT, Int.reduceAdd, Int.reduceSub, Int.reduceMul, Int.reduceNeg, not_true_eq_false, not_false_eq_true]
  refine T_for (σ := Value) (fun q v => [.ref 704, .int (J a), .int (J b), .int (J q), v]) (fun q _ h' => Ef (fun x _ => x = 769) k6 h' ∧ PU h' 769 (PN e (b - 1) a) q) 0 1536 ?_ ?_ 0 a_mk k6 (by omega) (by omega) ⟨Ef.refl, fun q _ _ => by omega⟩
  · rintro q v k7 q0 q1 ⟨e7, c7⟩ ih
    have d1 : gA k7 767 (1536 * a + q) = J (PN e (b - 1) a q) := (e7.g (by decide)).trans (c6 q q0 q1)
    rw [k334_3]
    simp +decide (maxSteps := 4000000) (disch := omega) only [k334_0, k334_1, k334_2, k334_4, k334_6, k334_8, k334_9, k334_10, k334_r, k334_s, F_al0, F_il1, J_ifeq, F_il2, T_I, J_ifne, T_ft, T_ret, T_sub, F_is3i, F_is3r, F_is3m, F_il3, T_icge, T_getR, T_mul, T_add, X_iald, T_iast, F_inc3i, F_inc3r, F_inc3m, T_goto, F_is4i, F_is4r, F_is4m, F_il4, T_iceq, J_icne, F_inc4i, F_inc4r, F_inc4m, c219, c324, c325, ↓s219, ↓s324, FM F, d1, ln_767, ln_769, show ¬ 1536 ≤ q by omega, ↓reduceIte, TK, lt_run hn, le43, Int.le_refl, Int.lt_irrefl, Option.some.injEq, exists_eq_left', true_and, and_true, if_true, if_false, decide_eq_false_iff_not, decide_eq_true_eq, Nat.reduceAdd, Nat.reduceLeDiff, Nat.reduceLT, Int.reduceAdd, Int.reduceSub, Int.reduceMul, Int.reduceNeg, not_true_eq_false, not_false_eq_true]
    exact ih _ _ ⟨e7.sA rfl, c7.set q0 rfl⟩
  rintro v k7 ⟨e7, c7⟩
  have K7 : Kp 0 0 h k7 := Ef.trans K6 (e7.mono fun x k q => Or.inl (by rw [q]; rfl))
  have W7 : PW k7 hr e := W.z (Ef.mono K7 fun x k q => Or.inl (by omega))
  rw [k334_3]
  simp +decide (maxSteps := 4000000) (disch := omega) only [k334_0, k334_1, k334_2, k334_4, k334_6, k334_8, k334_9, k334_10, k334_r, k334_s, F_al0, F_il1, J_ifeq, F_il2, T_I, J_ifne, T_ft, T_ret, T_sub, F_is3i, F_is3r, F_is3m, F_il3, T_icge, T_getR, T_mul, T_add, X_iald, T_iast, F_inc3i, F_inc3r, F_inc3m, T_goto, F_is4i, F_is4r, F_is4m, F_il4, T_iceq, J_icne, F_inc4i, F_inc4r, F_inc4m, c219, c324, c325, ↓s219, ↓s324, ↓reduceIte, TK, lt_run hn, le43, Int.le_refl, Int.lt_irrefl, Option.some.injEq, exists_eq_left', true_and, and_true, if_true, if_false, decide_eq_false_iff_not, decide_eq_true_eq, Nat.reduceAdd, Nat.reduceLeDiff, Nat.reduceLT, Int.reduceAdd, Int.reduceSub, Int.reduceMul, Int.reduceNeg, not_true_eq_false, not_false_eq_true]
  refine w325 F hn W7 (f := b + 1) (by omega) (by omega) (fun k8 e8 c8 => ?_)
  have c7' : PA k8 769 (PN e (b - 1) a) := fun q q0 q1 => (e8.g (nq (Or.inl rfl))).trans (c7 q q0 q1)
  have K8 : Kp 0 0 h k8 := Ef.trans K7 (e8.mono fun x k q => Or.inl (Ssh_0 q))
  simp +decide (maxSteps := 4000000) (disch := omega) only [k334_0, k334_1, k334_2, k334_4, k334_6, k334_8, k334_9, k334_10, k334_r, k334_s, F_al0, F_il1, J_ifeq, F_il2, T_I, J_ifne, T_ft, T_ret, T_sub, F_is3i, F_is3r, F_is3m, F_il3, T_icge, T_getR, T_mul, T_add, X_iald, T_iast, F_inc3i, F_inc3r, F_inc3m, T_goto, F_is4i, F_is4r, F_is4m, F_il4, T_iceq, J_icne, F_inc4i, F_inc4r, F_inc4m, c219, c324, c325, ↓s219, ↓s324, ↓reduceIte, TK, lt_run hn, le43, Int.le_refl, Int.lt_irrefl, Option.some.injEq, exists_eq_left', true_and, and_true, if_true, if_false, decide_eq_false_iff_not, decide_eq_true_eq, Nat.reduceAdd, Nat.reduceLeDiff, Nat.reduceLT, Int.reduceAdd, Int.reduceSub, Int.reduceMul, Int.reduceNeg, not_true_eq_false, not_false_eq_true]
  refine T_for (σ := Value) (fun q v => [.ref 704, .int (J a), .int (J b), .int (J q), v]) (fun q _ h' => Ef (fun x _ => x = 770) k8 h' ∧ PU h' 770 (PN e (b + 1) a) q) 0 1536 ?_ ?_ 0 v k8 (by omega) (by omega) ⟨Ef.refl, fun q _ _ => by omega⟩
  · rintro q v k9 q0 q1 ⟨e9, c9⟩ ih
    have d1 : gA k9 767 (1536 * a + q) = J (PN e (b + 1) a q) := (e9.g (by decide)).trans (c8 q q0 q1)
    rw [k334_5]
    simp +decide (maxSteps := 4000000) (disch := omega) only [k334_0, k334_1, k334_2, k334_4, k334_6, k334_8, k334_9, k334_10, k334_r, k334_s, F_al0, F_il1, J_ifeq, F_il2, T_I, J_ifne, T_ft, T_ret, T_sub, F_is3i, F_is3r, F_is3m, F_il3, T_icge, T_getR, T_mul, T_add, X_iald, T_iast, F_inc3i, F_inc3r, F_inc3m, T_goto, F_is4i, F_is4r, F_is4m, F_il4, T_iceq, J_icne, F_inc4i, F_inc4r, F_inc4m, c219, c324, c325, ↓s219, ↓s324, FM F, d1, ln_767, ln_770, show ¬ 1536 ≤ q by omega, ↓reduceIte, TK, lt_run hn, le43, Int.le_refl, Int.lt_irrefl, Option.some.injEq, exists_eq_left', true_and, and_true, if_true, if_false, decide_eq_false_iff_not, decide_eq_true_eq, Nat.reduceAdd, Nat.reduceLeDiff, Nat.reduceLT, Int.reduceAdd, Int.reduceSub, Int.reduceMul, Int.reduceNeg, not_true_eq_false, not_false_eq_true]
    exact ih _ _ ⟨e9.sA rfl, c9.set q0 rfl⟩
  rintro v k9 ⟨e9, c9⟩
  have K9 : Kp 0 0 h k9 := Ef.trans K8 (e9.mono fun x k q => Or.inl (by rw [q]; rfl))
  have W9 : PW k9 hr e := W.z (Ef.mono K9 fun x k q => Or.inl (by omega))
  rw [k334_5]
  simp +decide (maxSteps := 4000000) (disch := omega) only [k334_0, k334_1, k334_2, k334_4, k334_6, k334_8, k334_9, k334_10, k334_r, k334_s, F_al0, F_il1, J_ifeq, F_il2, T_I, J_ifne, T_ft, T_ret, T_sub, F_is3i, F_is3r, F_is3m, F_il3, T_icge, T_getR, T_mul, T_add, X_iald, T_iast, F_inc3i, F_inc3r, F_inc3m, T_goto, F_is4i, F_is4r, F_is4m, F_il4, T_iceq, J_icne, F_inc4i, F_inc4r, F_inc4m, c219, c324, c325, ↓s219, ↓s324, ↓reduceIte, TK, lt_run hn, le43, Int.le_refl, Int.lt_irrefl, Option.some.injEq, exists_eq_left', true_and, and_true, if_true, if_false, decide_eq_false_iff_not, decide_eq_true_eq, Nat.reduceAdd, Nat.reduceLeDiff, Nat.reduceLT, Int.reduceAdd, Int.reduceSub, Int.reduceMul, Int.reduceNeg, not_true_eq_false, not_false_eq_true]
  refine w325 F hn W9 (f := b) (by omega) (by omega) (fun j1 e10 c10 => ?_)
  have K10 : Kp 0 0 h j1 := Ef.trans K9 (e10.mono fun x k q => Or.inl (Ssh_0 q))
  have p1 : PA j1 769 (PN e (b - 1) a) := (c7'.ef e9 (fun k => by decide)).ef e10 (fun k => nq (Or.inl rfl))
  have p2 : PA j1 770 (PN e (b + 1) a) := fun q q0 q1 => (e10.g (nq (Or.inr rfl))).trans (c9 q q0 q1)
  simp +decide (maxSteps := 4000000) (disch := omega) only [k334_0, k334_1, k334_2, k334_4, k334_6, k334_8, k334_9, k334_10, k334_r, k334_s, F_al0, F_il1, J_ifeq, F_il2, T_I, J_ifne, T_ft, T_ret, T_sub, F_is3i, F_is3r, F_is3m, F_il3, T_icge, T_getR, T_mul, T_add, X_iald, T_iast, F_inc3i, F_inc3r, F_inc3m, T_goto, F_is4i, F_is4r, F_is4m, F_il4, T_iceq, J_icne, F_inc4i, F_inc4r, F_inc4m, c219, c324, c325, ↓s219, ↓s324, ↓reduceIte, TK, lt_run hn, le43, Int.le_refl, Int.lt_irrefl, Option.some.injEq, exists_eq_left', true_and, and_true, if_true, if_false, decide_eq_false_iff_not, decide_eq_true_eq, Nat.reduceAdd, Nat.reduceLeDiff, Nat.reduceLT, Int.reduceAdd, Int.reduceSub, Int.reduceMul, Int.reduceNeg, not_true_eq_false, not_false_eq_true]
  refine T_for (σ := Unit) (fun q _ => [.ref 704, .int (J a), .int (J b), .int (J (flk (PN e (b - 1) a) (PN e b a) (PN e (b + 1) a) q.toNat)), .int (J q)]) (fun _ _ h' => h' = j1) 0 1536 ?_ ?_ 0 () j1 (by omega) (by omega) rfl
  · rintro q _ j2 q0 q1 rfl ih
    have d1 := p1 q q0 q1
    have d2 := c10 q q0 q1
    have d3 := p2 q q0 q1
    have r1 := pr (b - 1) q q0 q1
    have r2 := pr b q q0 q1
    have r3 := pr (b + 1) q q0 q1
    have ih' := ih () _ rfl
    rw [flk_s q0] at ih'
    by_cases z1 : PN e b a q = PN e (b - 1) a q
    · rw [if_neg (fun w => w.1 z1)] at ih'
      rw [k334_7]
      simp +decide (maxSteps := 4000000) (disch := omega) only [k334_0, k334_1, k334_2, k334_4, k334_6, k334_8, k334_9, k334_10, k334_r, k334_s, F_al0, F_il1, J_ifeq, F_il2, T_I, J_ifne, T_ft, T_ret, T_sub, F_is3i, F_is3r, F_is3m, F_il3, T_icge, T_getR, T_mul, T_add, X_iald, T_iast, F_inc3i, F_inc3r, F_inc3m, T_goto, F_is4i, F_is4r, F_is4m, F_il4, T_iceq, J_icne, F_inc4i, F_inc4r, F_inc4m, c219, c324, c325, ↓s219, ↓s324, FM F, d1, d2, d3, eq_true z1, ln_767, ln_769, ln_770, show ¬ 1536 ≤ q by omega, ↓reduceIte, TK, lt_run hn, le43, Int.le_refl, Int.lt_irrefl, Option.some.injEq, exists_eq_left', true_and, and_true, if_true, if_false, decide_eq_false_iff_not, decide_eq_true_eq, Nat.reduceAdd, Nat.reduceLeDiff, Nat.reduceLT, Int.reduceAdd, Int.reduceSub, Int.reduceMul, Int.reduceNeg, not_true_eq_false, not_false_eq_true]
      exact ih'
    · by_cases z2 : PN e (b - 1) a q = PN e (b + 1) a q
      · rw [if_pos ⟨z1, z2⟩] at ih'
        rw [k334_7]
        simp +decide (maxSteps := 4000000) (disch := omega) only [k334_0, k334_1, k334_2, k334_4, k334_6, k334_8, k334_9, k334_10, k334_r, k334_s, F_al0, F_il1, J_ifeq, F_il2, T_I, J_ifne, T_ft, T_ret, T_sub, F_is3i, F_is3r, F_is3m, F_il3, T_icge, T_getR, T_mul, T_add, X_iald, T_iast, F_inc3i, F_inc3r, F_inc3m, T_goto, F_is4i, F_is4r, F_is4m, F_il4, T_iceq, J_icne, F_inc4i, F_inc4r, F_inc4m, c219, c324, c325, ↓s219, ↓s324, FM F, d1, d2, d3, z1, eq_true z2, ln_767, ln_769, ln_770, show ¬ 1536 ≤ q by omega, ↓reduceIte, TK, lt_run hn, le43, Int.le_refl, Int.lt_irrefl, Option.some.injEq, exists_eq_left', true_and, and_true, if_true, if_false, decide_eq_false_iff_not, decide_eq_true_eq, Nat.reduceAdd, Nat.reduceLeDiff, Nat.reduceLT, Int.reduceAdd, Int.reduceSub, Int.reduceMul, Int.reduceNeg, not_true_eq_false, not_false_eq_true]
        exact ih'
      · rw [if_neg (fun w => z2 w.2)] at ih'
        rw [k334_7]
        simp +decide (maxSteps := 4000000) (disch := omega) only [k334_0, k334_1, k334_2, k334_4, k334_6, k334_8, k334_9, k334_10, k334_r, k334_s, F_al0, F_il1, J_ifeq, F_il2, T_I, J_ifne, T_ft, T_ret, T_sub, F_is3i, F_is3r, F_is3m, F_il3, T_icge, T_getR, T_mul, T_add, X_iald, T_iast, F_inc3i, F_inc3r, F_inc3m, T_goto, F_is4i, F_is4r, F_is4m, F_il4, T_iceq, J_icne, F_inc4i, F_inc4r, F_inc4m, c219, c324, c325, ↓s219, ↓s324, FM F, d1, d2, d3, z1, z2, ln_767, ln_769, ln_770, show ¬ 1536 ≤ q by omega, ↓reduceIte, TK, lt_run hn, le43, Int.le_refl, Int.lt_irrefl, Option.some.injEq, exists_eq_left', true_and, and_true, if_true, if_false, decide_eq_false_iff_not, decide_eq_true_eq, Nat.reduceAdd, Nat.reduceLeDiff, Nat.reduceLT, Int.reduceAdd, Int.reduceSub, Int.reduceMul, Int.reduceNeg, not_true_eq_false, not_false_eq_true]
        exact ih'
  · rintro _ j2 rfl
    rw [k334_7]
    simp +decide (maxSteps := 4000000) (disch := omega) only [k334_0, k334_1, k334_2, k334_4, k334_6, k334_8, k334_9, k334_10, k334_r, k334_s, F_al0, F_il1, J_ifeq, F_il2, T_I, J_ifne, T_ft, T_ret, T_sub, F_is3i, F_is3r, F_is3m, F_il3, T_icge, T_getR, T_mul, T_add, X_iald, T_iast, F_inc3i, F_inc3r, F_inc3m, T_goto, F_is4i, F_is4r, F_is4m, F_il4, T_iceq, J_icne, F_inc4i, F_inc4r, F_inc4m, c219, c324, c325, ↓s219, ↓s324, ↓reduceIte, TK, lt_run hn, le43, Int.le_refl, Int.lt_irrefl, Option.some.injEq, exists_eq_left', true_and, and_true, if_true, if_false, decide_eq_false_iff_not, decide_eq_true_eq, Nat.reduceAdd, Nat.reduceLeDiff, Nat.reduceLT, Int.reduceAdd, Int.reduceSub, Int.reduceMul, Int.reduceNeg, not_true_eq_false, not_false_eq_true]
    first | exact ⟨rfl, ⟨trivial, K10⟩, rfl, rfl⟩ | exact ⟨⟨trivial, K10⟩, rfl, rfl⟩
end FK
