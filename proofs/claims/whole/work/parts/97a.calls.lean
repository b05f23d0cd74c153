/-! sample, drawn -/
section CA
variable {E : AEn} {h h' : AHi} {hr : AHr} {n : Nat} {Q : ARs → Prop} {e : PEn} {f i : Int}
def Ssh (x k : Nat) : Prop := x = 767 ∨ Spm x k ∨ (x = 704 ∧ (k = 79 ∨ k = 80 ∨ k = 81))
theorem Ssh_0 {x k : Nat} (q : Ssh x k) : sys x k = 0 := by
  unfold Ssh at q
  rcases q with rfl | q | ⟨rfl, rfl | rfl | rfl⟩
  · rfl
  · exact spm0 q
  · rfl
  · rfl
  · rfl
theorem w325 (F : FH hr) (hn : 775 ≤ n) (W : PW h hr e) {nd : Int} (hd : 0 ≤ nd ∧ nd < e.m) (hf : 0 ≤ f ∧ f ≤ 119)
    (k : ∀ h', Ef Ssh h h' → SPc h' nd (PN e f nd) → Q (none, h', hr, n)) : Sp E 325 [.ref 704, .int (J nd), .int (J f)] h hr n Q := by
  obtain ⟨_, _, _, _, _, _, _, n1, n2, n3, n4, n5, n6⟩ := id W
  simp +decide (maxSteps := 4000000) (disch := omega) only [k325_0, k325_2, k325_r, k325_s, T_I, F_is3i, F_is3r, F_is3m, T_ft, F_il3, F_il1, T_icgt, F_al0, F_il2, F_inc3i, F_inc3r, F_inc3m, T_goto, T_ret, c326, ↓reduceIte, TK, lt_run hn, le43, Int.le_refl, Int.lt_irrefl, Option.some.injEq, exists_eq_left', true_and, and_true, if_true, if_false, decide_eq_false_iff_not, decide_eq_true_eq, Nat.reduceAdd, Nat.reduceLeDiff, Nat.reduceLT, Int.reduceAdd, Int.reduceSub, Int.reduceMul, Int.reduceNeg, not_true_eq_false, not_false_eq_true]
  refine T_for (σ := Unit) (fun i _ => [.ref 704, .int (J nd), .int (J f), .int (J i)]) (fun i _ h' => Ef Ssh h h' ∧ ∀ j, 0 ≤ j → j < i → SPc h' j (PN e f j)) 0 (nd + 1) ?_ ?_ 0 () h (by omega) (by omega) ⟨Ef.refl, fun j _ _ => by omega⟩
  · rintro i _ h1 i0 i1 ⟨e1, c1⟩ ih
    have W1 : PW h1 hr e := W.z (e1.mono fun x k q => Or.inl (Ssh_0 q))
    have go : ∀ h2, Ef (Swk i) h1 h2 → SPc h2 i (PN e f i) → Ef Ssh h h2 ∧ ∀ j, 0 ≤ j → j < i + 1 → SPc h2 j (PN e f j) := fun h2 e2 c2 => by
      refine ⟨e1.trans (e2.mono fun x k q => ?_), fun j j0 j1 => ?_⟩
      · rcases q with q | q
        · exact Or.inl q.1
        · exact Or.inr q
      · by_cases z : j = i
        · rw [z]
          exact c2
        · intro q q0 q1
          refine (e2.g (fun w => ?_)).trans (c1 j j0 (by omega) q q0 q1)
          rcases w with w | w | w
          · unfold Swr at w
            omega
          · unfold Spm Sdr Scw Scf Swl at w
            omega
          · omega
    rw [k325_1]
    simp +decide (maxSteps := 4000000) (disch := omega) only [k325_0, k325_2, k325_r, k325_s, T_I, F_is3i, F_is3r, F_is3m, T_ft, F_il3, F_il1, T_icgt, F_al0, F_il2, F_inc3i, F_inc3r, F_inc3m, T_goto, T_ret, c326, show ¬ nd < i by omega, ↓reduceIte, TK, lt_run hn, le43, Int.le_refl, Int.lt_irrefl, Option.some.injEq, exists_eq_left', true_and, and_true, if_true, if_false, decide_eq_false_iff_not, decide_eq_true_eq, Nat.reduceAdd, Nat.reduceLeDiff, Nat.reduceLT, Int.reduceAdd, Int.reduceSub, Int.reduceMul, Int.reduceNeg, not_true_eq_false, not_false_eq_true]
    by_cases g1 : e.K i = 1
    · refine w326c F hn W1 ⟨i0, by omega⟩ g1 hf (fun h2 e2 c2 => ?_)
      simp +decide (maxSteps := 4000000) (disch := omega) only [k325_0, k325_2, k325_r, k325_s, T_I, F_is3i, F_is3r, F_is3m, T_ft, F_il3, F_il1, T_icgt, F_al0, F_il2, F_inc3i, F_inc3r, F_inc3m, T_goto, T_ret, c326, ↓reduceIte, TK, lt_run hn, le43, Int.le_refl, Int.lt_irrefl, Option.some.injEq, exists_eq_left', true_and, and_true, if_true, if_false, decide_eq_false_iff_not, decide_eq_true_eq, Nat.reduceAdd, Nat.reduceLeDiff, Nat.reduceLT, Int.reduceAdd, Int.reduceSub, Int.reduceMul, Int.reduceNeg, not_true_eq_false, not_false_eq_true]
      exact ih () _ (go h2 e2 c2)
    · by_cases g7 : e.K i = 7
      · refine w326b F hn W1 ⟨i0, by omega⟩ g7 hf (fun h2 e2 c2 => ?_)
        simp +decide (maxSteps := 4000000) (disch := omega) only [k325_0, k325_2, k325_r, k325_s, T_I, F_is3i, F_is3r, F_is3m, T_ft, F_il3, F_il1, T_icgt, F_al0, F_il2, F_inc3i, F_inc3r, F_inc3m, T_goto, T_ret, c326, ↓reduceIte, TK, lt_run hn, le43, Int.le_refl, Int.lt_irrefl, Option.some.injEq, exists_eq_left', true_and, and_true, if_true, if_false, decide_eq_false_iff_not, decide_eq_true_eq, Nat.reduceAdd, Nat.reduceLeDiff, Nat.reduceLT, Int.reduceAdd, Int.reduceSub, Int.reduceMul, Int.reduceNeg, not_true_eq_false, not_false_eq_true]
        exact ih () _ (go h2 e2 c2)
      · refine w326a F hn W1 ⟨i0, by omega⟩ ⟨g1, g7⟩ hf c1 (fun h2 e2 c2 => ?_)
        simp +decide (maxSteps := 4000000) (disch := omega) only [k325_0, k325_2, k325_r, k325_s, T_I, F_is3i, F_is3r, F_is3m, T_ft, F_il3, F_il1, T_icgt, F_al0, F_il2, F_inc3i, F_inc3r, F_inc3m, T_goto, T_ret, c326, ↓reduceIte, TK, lt_run hn, le43, Int.le_refl, Int.lt_irrefl, Option.some.injEq, exists_eq_left', true_and, and_true, if_true, if_false, decide_eq_false_iff_not, decide_eq_true_eq, Nat.reduceAdd, Nat.reduceLeDiff, Nat.reduceLT, Int.reduceAdd, Int.reduceSub, Int.reduceMul, Int.reduceNeg, not_true_eq_false, not_false_eq_true]
        exact ih () _ (go h2 e2 c2)
  · rintro _ h1 ⟨e1, c1⟩
    rw [k325_1]
    simp +decide (maxSteps := 4000000) (disch := omega) only [k325_0, k325_2, k325_r, k325_s, T_I, F_is3i, F_is3r, F_is3m, T_ft, F_il3, F_il1, T_icgt, F_al0, F_il2, F_inc3i, F_inc3r, F_inc3m, T_goto, T_ret, c326, show nd < nd + 1 by omega, ↓reduceIte, TK, lt_run hn, le43, Int.le_refl, Int.lt_irrefl, Option.some.injEq, exists_eq_left', true_and, and_true, if_true, if_false, decide_eq_false_iff_not, decide_eq_true_eq, Nat.reduceAdd, Nat.reduceLeDiff, Nat.reduceLT, Int.reduceAdd, Int.reduceSub, Int.reduceMul, Int.reduceNeg, not_true_eq_false, not_false_eq_true]
    exact k h1 e1 (c1 nd hd.1 (by omega))
theorem s196 (F : FH hr) (hn : 775 ≤ n) (W : PW h hr e) {a : Int} (ha : -2147483648 ≤ a) (ha' : a < 2147483648) : Sp E 196 [.ref 43, .int (J a)] h hr n Q ↔ Q (some (.int (Bz (decide (0 ≤ a ∧ a ≤ e.m - 1)))), h, hr, n) := by
  obtain ⟨_, _, _, _, _, _, _, n1, n2, n3, n4, n5, n6⟩ := id W
  have d1 := n4.1
  simp +decide (maxSteps := 4000000) (disch := omega) only [k196_0, k196_r, k196_s, F_il1, T_I, F_al0, T_getR, T_getI, T_sub, T_ret, c138, ↓s138, FX F, d1, ↓reduceIte, TK, lt_run hn, le43, Int.le_refl, Int.lt_irrefl, Option.some.injEq, exists_eq_left', true_and, and_true, if_true, if_false, decide_eq_false_iff_not, decide_eq_true_eq, Nat.reduceAdd, Nat.reduceLeDiff, Nat.reduceLT, Int.reduceAdd, Int.reduceSub, Int.reduceMul, Int.reduceNeg, not_true_eq_false, not_false_eq_true]
theorem s324 (F : FH hr) (hn : 775 ≤ n) (W : PW h hr e) {a : Int} (ha : -2147483648 ≤ a) (ha' : a < 2147483648) : Sp E 324 [.ref 704, .int (J a)] h hr n Q ↔ Q (some (.int (Bz (decide (0 ≤ a ∧ a ≤ e.m - 1)))), h, hr, n) := by
  obtain ⟨_, _, _, _, _, _, _, n1, n2, n3, n4, n5, n6⟩ := id W
  have d1 := n4.2
  simp +decide (maxSteps := 4000000) (disch := omega) only [k324_0, k324_r, k324_s, F_il1, T_I, F_al0, T_getI, T_sub, T_ret, c219, ↓s219, FM F, d1, ↓reduceIte, TK, lt_run hn, le43, Int.le_refl, Int.lt_irrefl, Option.some.injEq, exists_eq_left', true_and, and_true, if_true, if_false, decide_eq_false_iff_not, decide_eq_true_eq, Nat.reduceAdd, Nat.reduceLeDiff, Nat.reduceLT, Int.reduceAdd, Int.reduceSub, Int.reduceMul, Int.reduceNeg, not_true_eq_false, not_false_eq_true]
theorem Psample (F : FH hr) (hn : 775 ≤ n) (C3 : Cp3 h hr) (C4 : Cp4 h) (C5 : Cp5 h) (C6 : Cp6 h) (C7 : Cp7 h) (C8 : Cp8 h) (C15 : Cp15 h) (C16 : Cp16 h hr) (x y z u : Int32) : Pr2 E 195 323 [.int x, .int y, .int z, .int u] h hr n (Po (fun _ => True) 0 0 h hr n) := by
  obtain ⟨e, W⟩ := PW.mk' C3 C4 C5 C6 C7 C8 C15 C16
  obtain ⟨a, ha, ha', rfl⟩ := J_of x
  obtain ⟨b, hb, hb', rfl⟩ := J_of y
  obtain ⟨p, hp, hp', rfl⟩ := J_of z
  obtain ⟨q, hq, hq', rfl⟩ := J_of u
  unfold Pr2
  by_cases g1 : 0 ≤ a ∧ a ≤ e.m - 1
  case neg =>
    simp +decide (maxSteps := 4000000) (disch := omega) only [k195_0, k195_1, k195_2, k195_3, k195_4, k195_r, k195_s, F_al0, F_il1, J_ifeq, F_il2, F_il3, F_il4, J_ifne, T_ft, T_I, T_ret, X_iald, F_is5i, F_is5r, F_is5m, F_il5, J_icne, T_goto, c145, c151, c173, c196, c197, ↓s145, ↓s151, ↓s173, FX F, ↓s196 F hn W, ↓s324 F hn W, g1, ↓reduceIte, TK, lt_run hn, le43, Int.le_refl, Int.lt_irrefl, Option.some.injEq, exists_eq_left', true_and, and_true, if_true, if_false, decide_eq_false_iff_not, decide_eq_true_eq, Nat.reduceAdd, Nat.reduceLeDiff, Nat.reduceLT, Int.reduceAdd, Int.reduceSub, Int.reduceMul, Int.reduceNeg, not_true_eq_false, not_false_eq_true]
    refine ⟨_, rfl, ?_⟩
    simp +decide (maxSteps := 4000000) (disch := omega) only [k323_0, k323_1, k323_2, k323_r, k323_s, F_al0, F_il1, J_ifeq, F_il2, F_il3, F_il4, J_ifne, T_ft, T_I, T_ret, T_getR, T_mul, T_add, X_iald, c237, c287, c324, c325, ↓s237, ↓s287, FM F, ↓s196 F hn W, ↓s324 F hn W, g1, ↓reduceIte, TK, lt_run hn, le43, Int.le_refl, Int.lt_irrefl, Option.some.injEq, exists_eq_left', true_and, and_true, if_true, if_false, decide_eq_false_iff_not, decide_eq_true_eq, Nat.reduceAdd, Nat.reduceLeDiff, Nat.reduceLT, Int.reduceAdd, Int.reduceSub, Int.reduceMul, Int.reduceNeg, not_true_eq_false, not_false_eq_true]
    first | exact ⟨rfl, ⟨trivial, Kp.refl⟩, rfl, rfl⟩ | exact ⟨⟨trivial, Kp.refl⟩, rfl, rfl⟩ | exact ⟨trivial, Kp.refl⟩
  by_cases g2 : 0 ≤ b ∧ b ≤ 119
  case neg =>
    simp +decide (maxSteps := 4000000) (disch := omega) only [k195_0, k195_1, k195_2, k195_3, k195_4, k195_r, k195_s, F_al0, F_il1, J_ifeq, F_il2, F_il3, F_il4, J_ifne, T_ft, T_I, T_ret, X_iald, F_is5i, F_is5r, F_is5m, F_il5, J_icne, T_goto, c145, c151, c173, c196, c197, ↓s145, ↓s151, ↓s173, FX F, ↓s196 F hn W, ↓s324 F hn W, g1, g2, ↓reduceIte, TK, lt_run hn, le43, Int.le_refl, Int.lt_irrefl, Option.some.injEq, exists_eq_left', true_and, and_true, if_true, if_false, decide_eq_false_iff_not, decide_eq_true_eq, Nat.reduceAdd, Nat.reduceLeDiff, Nat.reduceLT, Int.reduceAdd, Int.reduceSub, Int.reduceMul, Int.reduceNeg, not_true_eq_false, not_false_eq_true]
    refine ⟨_, rfl, ?_⟩
    simp +decide (maxSteps := 4000000) (disch := omega) only [k323_0, k323_1, k323_2, k323_r, k323_s, F_al0, F_il1, J_ifeq, F_il2, F_il3, F_il4, J_ifne, T_ft, T_I, T_ret, T_getR, T_mul, T_add, X_iald, c237, c287, c324, c325, ↓s237, ↓s287, FM F, ↓s196 F hn W, ↓s324 F hn W, g1, g2, ↓reduceIte, TK, lt_run hn, le43, Int.le_refl, Int.lt_irrefl, Option.some.injEq, exists_eq_left', true_and, and_true, if_true, if_false, decide_eq_false_iff_not, decide_eq_true_eq, Nat.reduceAdd, Nat.reduceLeDiff, Nat.reduceLT, Int.reduceAdd, Int.reduceSub, Int.reduceMul, Int.reduceNeg, not_true_eq_false, not_false_eq_true]
    first | exact ⟨rfl, ⟨trivial, Kp.refl⟩, rfl, rfl⟩ | exact ⟨⟨trivial, Kp.refl⟩, rfl, rfl⟩ | exact ⟨trivial, Kp.refl⟩
  by_cases g3 : (0 ≤ p ∧ p ≤ 47) ∧ 0 ≤ q ∧ q ≤ 31
  case neg =>
    simp +decide (maxSteps := 4000000) (disch := omega) only [k195_0, k195_1, k195_2, k195_3, k195_4, k195_r, k195_s, F_al0, F_il1, J_ifeq, F_il2, F_il3, F_il4, J_ifne, T_ft, T_I, T_ret, X_iald, F_is5i, F_is5r, F_is5m, F_il5, J_icne, T_goto, c145, c151, c173, c196, c197, ↓s145, ↓s151, ↓s173, FX F, ↓s196 F hn W, ↓s324 F hn W, g1, g2, g3, ↓reduceIte, TK, lt_run hn, le43, Int.le_refl, Int.lt_irrefl, Option.some.injEq, exists_eq_left', true_and, and_true, if_true, if_false, decide_eq_false_iff_not, decide_eq_true_eq, Nat.reduceAdd, Nat.reduceLeDiff, Nat.reduceLT, Int.reduceAdd, Int.reduceSub, Int.reduceMul, Int.reduceNeg, not_true_eq_false, not_false_eq_true]
    refine ⟨_, rfl, ?_⟩
    simp +decide (maxSteps := 4000000) (disch := omega) only [k323_0, k323_1, k323_2, k323_r, k323_s, F_al0, F_il1, J_ifeq, F_il2, F_il3, F_il4, J_ifne, T_ft, T_I, T_ret, T_getR, T_mul, T_add, X_iald, c237, c287, c324, c325, ↓s237, ↓s287, FM F, ↓s196 F hn W, ↓s324 F hn W, g1, g2, g3, ↓reduceIte, TK, lt_run hn, le43, Int.le_refl, Int.lt_irrefl, Option.some.injEq, exists_eq_left', true_and, and_true, if_true, if_false, decide_eq_false_iff_not, decide_eq_true_eq, Nat.reduceAdd, Nat.reduceLeDiff, Nat.reduceLT, Int.reduceAdd, Int.reduceSub, Int.reduceMul, Int.reduceNeg, not_true_eq_false, not_false_eq_true]
    first | exact ⟨rfl, ⟨trivial, Kp.refl⟩, rfl, rfl⟩ | exact ⟨⟨trivial, Kp.refl⟩, rfl, rfl⟩ | exact ⟨trivial, Kp.refl⟩
  have m1 := W.2.2.2.2.2.2.2.1
  have pr := PN_r W b g1.1 (by omega) (q * 48 + p) (by omega) (by omega)
  have x1 := X127 E F g1.1 (show a < 10 by omega)
  simp +decide (maxSteps := 4000000) (disch := omega) only [k195_0, k195_1, k195_2, k195_3, k195_4, k195_r, k195_s, F_al0, F_il1, J_ifeq, F_il2, F_il3, F_il4, J_ifne, T_ft, T_I, T_ret, X_iald, F_is5i, F_is5r, F_is5m, F_il5, J_icne, T_goto, c145, c151, c173, c196, c197, ↓s145, ↓s151, ↓s173, ↓s196 F hn W, g1, g2, g3, ↓reduceIte, TK, lt_run hn, le43, Int.le_refl, Int.lt_irrefl, Option.some.injEq, exists_eq_left', true_and, and_true, if_true, if_false, decide_eq_false_iff_not, decide_eq_true_eq, Nat.reduceAdd, Nat.reduceLeDiff, Nat.reduceLT, Int.reduceAdd, Int.reduceSub, Int.reduceMul, Int.reduceNeg, not_true_eq_false, not_false_eq_true]
  refine w197 F hn W (by omega) g2 (fun h1 e1 c1 => ?_)
  have d1 := c1 (q * 48 + p) (by omega) (by omega)
  have e1' : Kp 0 0 h h1 := e1.mono fun x k q => Or.inl (Sps_0 q)
  have W1 : PW h1 hr e := W.z (e1.mono fun x k q => Or.inl (Sps_0 q))
  have go : ∃ v, (v = J (PN e b a (q * 48 + p))) ∧ Sp E 323 [.ref 704, .int (J a), .int (J b), .int (J p), .int (J q)] h1 hr n (fun q => q.1 = some (.int v) ∧ Po (fun _ => True) 0 0 h hr n q.2.1 q.2.2.1 q.2.2.2) := by
    refine ⟨_, rfl, ?_⟩
    simp +decide (maxSteps := 4000000) (disch := omega) only [k323_0, k323_1, k323_2, k323_r, k323_s, F_al0, F_il1, J_ifeq, F_il2, F_il3, F_il4, J_ifne, T_ft, T_I, T_ret, T_getR, T_mul, T_add, X_iald, c237, c287, c324, c325, ↓s237, ↓s287, ↓s324 F hn W1, g1, g2, g3, ↓reduceIte, TK, lt_run hn, le43, Int.le_refl, Int.lt_irrefl, Option.some.injEq, exists_eq_left', true_and, and_true, if_true, if_false, decide_eq_false_iff_not, decide_eq_true_eq, Nat.reduceAdd, Nat.reduceLeDiff, Nat.reduceLT, Int.reduceAdd, Int.reduceSub, Int.reduceMul, Int.reduceNeg, not_true_eq_false, not_false_eq_true]
    refine w325 F hn W1 (by omega) g2 (fun h2 e2 c2 => ?_)
    have d2 := c2 (q * 48 + p) (by omega) (by omega)
    rw [show 1536 * a + (q * 48 + p) = 1536 * a + 48 * q + p by omega] at d2
    simp +decide (maxSteps := 4000000) (disch := omega) only [k323_0, k323_1, k323_2, k323_r, k323_s, F_al0, F_il1, J_ifeq, F_il2, F_il3, F_il4, J_ifne, T_ft, T_I, T_ret, T_getR, T_mul, T_add, X_iald, c237, c287, c324, c325, ↓s237, ↓s287, ↓s324, FM F, d2, ln_767, ↓reduceIte, TK, lt_run hn, le43, Int.le_refl, Int.lt_irrefl, Option.some.injEq, exists_eq_left', true_and, and_true, if_true, if_false, decide_eq_false_iff_not, decide_eq_true_eq, Nat.reduceAdd, Nat.reduceLeDiff, Nat.reduceLT, Int.reduceAdd, Int.reduceSub, Int.reduceMul, Int.reduceNeg, not_true_eq_false, not_false_eq_true]
    have K : Kp 0 0 h h2 := Ef.trans e1' (e2.mono fun x k q => Or.inl (Ssh_0 q))
    first | exact ⟨rfl, ⟨trivial, K⟩, rfl, rfl⟩ | exact ⟨⟨trivial, K⟩, rfl, rfl⟩
  obtain ⟨v, hv, go⟩ := go
  by_cases z : PN e b a (q * 48 + p) = -1
  · rw [z] at hv d1
    simp +decide (maxSteps := 4000000) (disch := omega) only [k195_0, k195_1, k195_2, k195_3, k195_4, k195_r, k195_s, F_al0, F_il1, J_ifeq, F_il2, F_il3, F_il4, J_ifne, T_ft, T_I, T_ret, X_iald, F_is5i, F_is5r, F_is5m, F_il5, J_icne, T_goto, c145, c151, c173, c196, c197, ↓s145, ↓s151, ↓s173, ↓s196, x1, d1, ↓reduceIte, TK, lt_run hn, le43, Int.le_refl, Int.lt_irrefl, Option.some.injEq, exists_eq_left', true_and, and_true, if_true, if_false, decide_eq_false_iff_not, decide_eq_true_eq, Nat.reduceAdd, Nat.reduceLeDiff, Nat.reduceLT, Int.reduceAdd, Int.reduceSub, Int.reduceMul, Int.reduceNeg, not_true_eq_false, not_false_eq_true]
    refine ⟨_, rfl, ?_⟩
    rw [hv] at go
    exact go
  · simp +decide (maxSteps := 4000000) (disch := omega) only [k195_0, k195_1, k195_2, k195_3, k195_4, k195_r, k195_s, F_al0, F_il1, J_ifeq, F_il2, F_il3, F_il4, J_ifne, T_ft, T_I, T_ret, X_iald, F_is5i, F_is5r, F_is5m, F_il5, J_icne, T_goto, c145, c151, c173, c196, c197, ↓s145, ↓s151, ↓s173, ↓s196, x1, d1, z, ↓reduceIte, TK, lt_run hn, le43, Int.le_refl, Int.lt_irrefl, Option.some.injEq, exists_eq_left', true_and, and_true, if_true, if_false, decide_eq_false_iff_not, decide_eq_true_eq, Nat.reduceAdd, Nat.reduceLeDiff, Nat.reduceLT, Int.reduceAdd, Int.reduceSub, Int.reduceMul, Int.reduceNeg, not_true_eq_false, not_false_eq_true]
    refine ⟨_, rfl, ?_⟩
    rw [hv] at go
    exact go
/-- how many pixels are drawn -/
def drn (A : Pic) (k : Nat) : Int := acc (fun q => if A q = -1 then 0 else 1) k
theorem drn_s {A : Pic} {q : Int} (h : 0 ≤ q) : drn A (q + 1).toNat = drn A q.toNat + if A q = -1 then 0 else 1 := acc_s _ h
theorem Pdrawn (F : FH hr) (hn : 775 ≤ n) (C3 : Cp3 h hr) (C4 : Cp4 h) (C5 : Cp5 h) (C6 : Cp6 h) (C7 : Cp7 h) (C8 : Cp8 h) (C15 : Cp15 h) (C16 : Cp16 h hr) (x y : Int32) : Pr2 E 202 330 [.int x, .int y] h hr n (Po (fun _ => True) 0 0 h hr n) := by
  obtain ⟨e, W⟩ := PW.mk' C3 C4 C5 C6 C7 C8 C15 C16
  obtain ⟨a, ha, ha', rfl⟩ := J_of x
  obtain ⟨b, hb, hb', rfl⟩ := J_of y
  unfold Pr2
  by_cases g1 : 0 ≤ a ∧ a ≤ e.m - 1
  case neg =>
    simp +decide (maxSteps := 4000000) (disch := omega) only [k202_0, k202_1, k202_2, k202_4, k202_5, k202_r, k202_s, F_al0, F_il1, J_ifeq, F_il2, J_ifne, T_ft, T_I, T_ret, F_as3i, F_as3r, F_as3m, F_is4i, F_is4r, F_is4m, F_is5i, F_is5r, F_is5m, F_il5, T_icge, F_al3, X_iald, T_iceq, F_inc4i, F_inc4r, F_inc4m, F_inc5i, F_inc5r, F_inc5m, T_goto, F_il4, c173, c196, c197, ↓s173, FX F, ↓s196 F hn W, ↓s324 F hn W, g1, ↓reduceIte, TK, lt_run hn, le43, Int.le_refl, Int.lt_irrefl, Option.some.injEq, exists_eq_left', true_and, and_true, if_true, if_false, decide_eq_false_iff_not, decide_eq_true_eq, Nat.reduceAdd, Nat.reduceLeDiff, Nat.reduceLT, Int.reduceAdd, Int.reduceSub, Int.reduceMul, Int.reduceNeg, not_true_eq_false, not_false_eq_true]
    refine ⟨_, rfl, ?_⟩
    simp +decide (maxSteps := 4000000) (disch := omega) only [k330_0, k330_1, k330_2, k330_4, k330_5, k330_6, k330_r, k330_s, F_al0, F_il1, J_ifeq, F_il2, J_ifne, T_ft, T_I, T_ret, F_is3i, F_is3r, F_is3m, F_is4i, F_is4r, F_is4m, F_il4, T_icge, F_il3, T_getR, T_mul, T_add, X_iald, T_iceq, T_goto, F_inc4i, F_inc4r, F_inc4m, c287, c324, c325, ↓s287, FM F, ↓s196 F hn W, ↓s324 F hn W, g1, ↓reduceIte, TK, lt_run hn, le43, Int.le_refl, Int.lt_irrefl, Option.some.injEq, exists_eq_left', true_and, and_true, if_true, if_false, decide_eq_false_iff_not, decide_eq_true_eq, Nat.reduceAdd, Nat.reduceLeDiff, Nat.reduceLT, Int.reduceAdd, Int.reduceSub, Int.reduceMul, Int.reduceNeg, not_true_eq_false, not_false_eq_true]
    first | exact ⟨rfl, ⟨trivial, Kp.refl⟩, rfl, rfl⟩ | exact ⟨⟨trivial, Kp.refl⟩, rfl, rfl⟩ | exact ⟨trivial, Kp.refl⟩
  by_cases g2 : 0 ≤ b ∧ b ≤ 119
  case neg =>
    simp +decide (maxSteps := 4000000) (disch := omega) only [k202_0, k202_1, k202_2, k202_4, k202_5, k202_r, k202_s, F_al0, F_il1, J_ifeq, F_il2, J_ifne, T_ft, T_I, T_ret, F_as3i, F_as3r, F_as3m, F_is4i, F_is4r, F_is4m, F_is5i, F_is5r, F_is5m, F_il5, T_icge, F_al3, X_iald, T_iceq, F_inc4i, F_inc4r, F_inc4m, F_inc5i, F_inc5r, F_inc5m, T_goto, F_il4, c173, c196, c197, ↓s173, FX F, ↓s196 F hn W, ↓s324 F hn W, g1, g2, ↓reduceIte, TK, lt_run hn, le43, Int.le_refl, Int.lt_irrefl, Option.some.injEq, exists_eq_left', true_and, and_true, if_true, if_false, decide_eq_false_iff_not, decide_eq_true_eq, Nat.reduceAdd, Nat.reduceLeDiff, Nat.reduceLT, Int.reduceAdd, Int.reduceSub, Int.reduceMul, Int.reduceNeg, not_true_eq_false, not_false_eq_true]
    refine ⟨_, rfl, ?_⟩
    simp +decide (maxSteps := 4000000) (disch := omega) only [k330_0, k330_1, k330_2, k330_4, k330_5, k330_6, k330_r, k330_s, F_al0, F_il1, J_ifeq, F_il2, J_ifne, T_ft, T_I, T_ret, F_is3i, F_is3r, F_is3m, F_is4i, F_is4r, F_is4m, F_il4, T_icge, F_il3, T_getR, T_mul, T_add, X_iald, T_iceq, T_goto, F_inc4i, F_inc4r, F_inc4m, c287, c324, c325, ↓s287, FM F, ↓s196 F hn W, ↓s324 F hn W, g1, g2, ↓reduceIte, TK, lt_run hn, le43, Int.le_refl, Int.lt_irrefl, Option.some.injEq, exists_eq_left', true_and, and_true, if_true, if_false, decide_eq_false_iff_not, decide_eq_true_eq, Nat.reduceAdd, Nat.reduceLeDiff, Nat.reduceLT, Int.reduceAdd, Int.reduceSub, Int.reduceMul, Int.reduceNeg, not_true_eq_false, not_false_eq_true]
    first | exact ⟨rfl, ⟨trivial, Kp.refl⟩, rfl, rfl⟩ | exact ⟨⟨trivial, Kp.refl⟩, rfl, rfl⟩ | exact ⟨trivial, Kp.refl⟩
  have m1 := W.2.2.2.2.2.2.2.1
  have pr := PN_r W b g1.1 (show a < e.m by omega)
  have x1 := X127 E F g1.1 (show a < 10 by omega)
  simp +decide (maxSteps := 4000000) (disch := omega) only [k202_0, k202_1, k202_2, k202_4, k202_5, k202_r, k202_s, F_al0, F_il1, J_ifeq, F_il2, J_ifne, T_ft, T_I, T_ret, F_as3i, F_as3r, F_as3m, F_is4i, F_is4r, F_is4m, F_is5i, F_is5r, F_is5m, F_il5, T_icge, F_al3, X_iald, T_iceq, F_inc4i, F_inc4r, F_inc4m, F_inc5i, F_inc5r, F_inc5m, T_goto, F_il4, c173, c196, c197, ↓s173, ↓s196 F hn W, g1, g2, ↓reduceIte, TK, lt_run hn, le43, Int.le_refl, Int.lt_irrefl, Option.some.injEq, exists_eq_left', true_and, and_true, if_true, if_false, decide_eq_false_iff_not, decide_eq_true_eq, Nat.reduceAdd, Nat.reduceLeDiff, Nat.reduceLT, Int.reduceAdd, Int.reduceSub, Int.reduceMul, Int.reduceNeg, not_true_eq_false, not_false_eq_true]
  refine w197 F hn W (by omega) g2 (fun h1 e1 c1 => ?_)
  have e1' : Kp 0 0 h h1 := e1.mono fun x k q => Or.inl (Sps_0 q)
  have W1 : PW h1 hr e := W.z (e1.mono fun x k q => Or.inl (Sps_0 q))
  simp +decide (maxSteps := 4000000) (disch := omega) only [k202_0, k202_1, k202_2, k202_4, k202_5, k202_r, k202_s, F_al0, F_il1, J_ifeq, F_il2, J_ifne, T_ft, T_I, T_ret, F_as3i, F_as3r, F_as3m, F_is4i, F_is4r, F_is4m, F_is5i, F_is5r, F_is5m, F_il5, T_icge, F_al3, X_iald, T_iceq, F_inc4i, F_inc4r, F_inc4m, F_inc5i, F_inc5r, F_inc5m, T_goto, F_il4, c173, c196, c197, ↓s173, ↓s196, x1, ↓reduceIte, TK, lt_run hn, le43, Int.le_refl, Int.lt_irrefl, Option.some.injEq, exists_eq_left', true_and, and_true, if_true, if_false, decide_eq_false_iff_not, decide_eq_true_eq, Nat.reduceAdd, Nat.reduceLeDiff, Nat.reduceLT, Int.reduceAdd, Int.reduceSub, Int.reduceMul, Int.reduceNeg, not_true_eq_false, not_false_eq_true]
  refine T_for (σ := Unit) (fun q _ => [.ref 43, .int (J a), .int (J b), .ref (128 + a.toNat), .int (J (drn (PN e b a) q.toNat)), .int (J q)]) (fun _ _ h' => h' = h1) 0 1536 ?_ ?_ 0 () h1 (by omega) (by omega) rfl
  · rintro q _ h2 q0 q1 rfl ih
    have d1 := c1 q q0 q1
    have r1 := pr q q0 q1
    have ih' := ih () _ rfl
    rw [drn_s q0] at ih'
    by_cases z : PN e b a q = -1
    · rw [if_pos z, Int.add_zero] at ih'
      rw [k202_3]
      simp +decide (maxSteps := 4000000) (disch := omega) only [k202_0, k202_1, k202_2, k202_4, k202_5, k202_r, k202_s, F_al0, F_il1, J_ifeq, F_il2, J_ifne, T_ft, T_I, T_ret, F_as3i, F_as3r, F_as3m, F_is4i, F_is4r, F_is4m, F_is5i, F_is5r, F_is5m, F_il5, T_icge, F_al3, X_iald, T_iceq, F_inc4i, F_inc4r, F_inc4m, F_inc5i, F_inc5r, F_inc5m, T_goto, F_il4, c173, c196, c197, ↓s173, ↓s196, x1, d1, z, show ¬ 1536 ≤ q by omega, ↓reduceIte, TK, lt_run hn, le43, Int.le_refl, Int.lt_irrefl, Option.some.injEq, exists_eq_left', true_and, and_true, if_true, if_false, decide_eq_false_iff_not, decide_eq_true_eq, Nat.reduceAdd, Nat.reduceLeDiff, Nat.reduceLT, Int.reduceAdd, Int.reduceSub, Int.reduceMul, Int.reduceNeg, not_true_eq_false, not_false_eq_true]
      exact ih'
    · rw [if_neg z] at ih'
      rw [k202_3]
      simp +decide (maxSteps := 4000000) (disch := omega) only [k202_0, k202_1, k202_2, k202_4, k202_5, k202_r, k202_s, F_al0, F_il1, J_ifeq, F_il2, J_ifne, T_ft, T_I, T_ret, F_as3i, F_as3r, F_as3m, F_is4i, F_is4r, F_is4m, F_is5i, F_is5r, F_is5m, F_il5, T_icge, F_al3, X_iald, T_iceq, F_inc4i, F_inc4r, F_inc4m, F_inc5i, F_inc5r, F_inc5m, T_goto, F_il4, c173, c196, c197, ↓s173, ↓s196, x1, d1, z, show ¬ 1536 ≤ q by omega, ↓reduceIte, TK, lt_run hn, le43, Int.le_refl, Int.lt_irrefl, Option.some.injEq, exists_eq_left', true_and, and_true, if_true, if_false, decide_eq_false_iff_not, decide_eq_true_eq, Nat.reduceAdd, Nat.reduceLeDiff, Nat.reduceLT, Int.reduceAdd, Int.reduceSub, Int.reduceMul, Int.reduceNeg, not_true_eq_false, not_false_eq_true]
      exact ih'
  rintro _ h2 rfl
  rw [k202_3]
  simp +decide (maxSteps := 4000000) (disch := omega) only [k202_0, k202_1, k202_2, k202_4, k202_5, k202_r, k202_s, F_al0, F_il1, J_ifeq, F_il2, J_ifne, T_ft, T_I, T_ret, F_as3i, F_as3r, F_as3m, F_is4i, F_is4r, F_is4m, F_is5i, F_is5r, F_is5m, F_il5, T_icge, F_al3, X_iald, T_iceq, F_inc4i, F_inc4r, F_inc4m, F_inc5i, F_inc5r, F_inc5m, T_goto, F_il4, c173, c196, c197, ↓s173, ↓s196, ↓reduceIte, TK, lt_run hn, le43, Int.le_refl, Int.lt_irrefl, Option.some.injEq, exists_eq_left', true_and, and_true, if_true, if_false, decide_eq_false_iff_not, decide_eq_true_eq, Nat.reduceAdd, Nat.reduceLeDiff, Nat.reduceLT, Int.reduceAdd, Int.reduceSub, Int.reduceMul, Int.reduceNeg, not_true_eq_false, not_false_eq_true]
  refine ⟨_, rfl, ?_⟩
  simp +decide (maxSteps := 4000000) (disch := omega) only [k330_0, k330_1, k330_2, k330_4, k330_5, k330_6, k330_r, k330_s, F_al0, F_il1, J_ifeq, F_il2, J_ifne, T_ft, T_I, T_ret, F_is3i, F_is3r, F_is3m, F_is4i, F_is4r, F_is4m, F_il4, T_icge, F_il3, T_getR, T_mul, T_add, X_iald, T_iceq, T_goto, F_inc4i, F_inc4r, F_inc4m, c287, c324, c325, ↓s287, ↓s324 F hn W1, g1, g2, ↓reduceIte, TK, lt_run hn, le43, Int.le_refl, Int.lt_irrefl, Option.some.injEq, exists_eq_left', true_and, and_true, if_true, if_false, decide_eq_false_iff_not, decide_eq_true_eq, Nat.reduceAdd, Nat.reduceLeDiff, Nat.reduceLT, Int.reduceAdd, Int.reduceSub, Int.reduceMul, Int.reduceNeg, not_true_eq_false, not_false_eq_true]
  refine w325 F hn W1 (by omega) g2 (fun h3 e2 c2 => ?_)
  have K : Kp 0 0 h h3 := Ef.trans e1' (e2.mono fun x k q => Or.inl (Ssh_0 q))
  simp +decide (maxSteps := 4000000) (disch := omega) only [k330_0, k330_1, k330_2, k330_4, k330_5, k330_6, k330_r, k330_s, F_al0, F_il1, J_ifeq, F_il2, J_ifne, T_ft, T_I, T_ret, F_is3i, F_is3r, F_is3m, F_is4i, F_is4r, F_is4m, F_il4, T_icge, F_il3, T_getR, T_mul, T_add, X_iald, T_iceq, T_goto, F_inc4i, F_inc4r, F_inc4m, c287, c324, c325, ↓s287, ↓s324, ↓reduceIte, TK, lt_run hn, le43, Int.le_refl, Int.lt_irrefl, Option.some.injEq, exists_eq_left', true_and, and_true, if_true, if_false, decide_eq_false_iff_not, decide_eq_true_eq, Nat.reduceAdd, Nat.reduceLeDiff, Nat.reduceLT, Int.reduceAdd, Int.reduceSub, Int.reduceMul, Int.reduceNeg, not_true_eq_false, not_false_eq_true]
  refine T_for (σ := Unit) (fun q _ => [.ref 704, .int (J a), .int (J b), .int (J (drn (PN e b a) q.toNat)), .int (J q)]) (fun _ _ h' => h' = h3) 0 1536 ?_ ?_ 0 () h3 (by omega) (by omega) rfl
  · rintro q _ h4 q0 q1 rfl ih
    have d1 := c2 q q0 q1
    have r1 := pr q q0 q1
    have ih' := ih () _ rfl
    rw [drn_s q0] at ih'
    by_cases z : PN e b a q = -1
    · rw [if_pos z] at ih'
      rw [k330_3]
      simp +decide (maxSteps := 4000000) (disch := omega) only [k330_0, k330_1, k330_2, k330_4, k330_5, k330_6, k330_r, k330_s, F_al0, F_il1, J_ifeq, F_il2, J_ifne, T_ft, T_I, T_ret, F_is3i, F_is3r, F_is3m, F_is4i, F_is4r, F_is4m, F_il4, T_icge, F_il3, T_getR, T_mul, T_add, X_iald, T_iceq, T_goto, F_inc4i, F_inc4r, F_inc4m, c287, c324, c325, ↓s287, ↓s324, FM F, d1, z, ln_767, show ¬ 1536 ≤ q by omega, ↓reduceIte, TK, lt_run hn, le43, Int.le_refl, Int.lt_irrefl, Option.some.injEq, exists_eq_left', true_and, and_true, if_true, if_false, decide_eq_false_iff_not, decide_eq_true_eq, Nat.reduceAdd, Nat.reduceLeDiff, Nat.reduceLT, Int.reduceAdd, Int.reduceSub, Int.reduceMul, Int.reduceNeg, not_true_eq_false, not_false_eq_true]
      exact ih'
    · rw [if_neg z] at ih'
      rw [k330_3]
      simp +decide (maxSteps := 4000000) (disch := omega) only [k330_0, k330_1, k330_2, k330_4, k330_5, k330_6, k330_r, k330_s, F_al0, F_il1, J_ifeq, F_il2, J_ifne, T_ft, T_I, T_ret, F_is3i, F_is3r, F_is3m, F_is4i, F_is4r, F_is4m, F_il4, T_icge, F_il3, T_getR, T_mul, T_add, X_iald, T_iceq, T_goto, F_inc4i, F_inc4r, F_inc4m, c287, c324, c325, ↓s287, ↓s324, FM F, d1, z, ln_767, show ¬ 1536 ≤ q by omega, ↓reduceIte, TK, lt_run hn, le43, Int.le_refl, Int.lt_irrefl, Option.some.injEq, exists_eq_left', true_and, and_true, if_true, if_false, decide_eq_false_iff_not, decide_eq_true_eq, Nat.reduceAdd, Nat.reduceLeDiff, Nat.reduceLT, Int.reduceAdd, Int.reduceSub, Int.reduceMul, Int.reduceNeg, not_true_eq_false, not_false_eq_true]
      exact ih'
  · rintro _ h4 rfl
    rw [k330_3]
    simp +decide (maxSteps := 4000000) (disch := omega) only [k330_0, k330_1, k330_2, k330_4, k330_5, k330_6, k330_r, k330_s, F_al0, F_il1, J_ifeq, F_il2, J_ifne, T_ft, T_I, T_ret, F_is3i, F_is3r, F_is3m, F_is4i, F_is4r, F_is4m, F_il4, T_icge, F_il3, T_getR, T_mul, T_add, X_iald, T_iceq, T_goto, F_inc4i, F_inc4r, F_inc4m, c287, c324, c325, ↓s287, ↓s324, ↓reduceIte, TK, lt_run hn, le43, Int.le_refl, Int.lt_irrefl, Option.some.injEq, exists_eq_left', true_and, and_true, if_true, if_false, decide_eq_false_iff_not, decide_eq_true_eq, Nat.reduceAdd, Nat.reduceLeDiff, Nat.reduceLT, Int.reduceAdd, Int.reduceSub, Int.reduceMul, Int.reduceNeg, not_true_eq_false, not_false_eq_true]
    first | exact ⟨rfl, ⟨trivial, K⟩, rfl, rfl⟩ | exact ⟨⟨trivial, K⟩, rfl, rfl⟩
end CA
