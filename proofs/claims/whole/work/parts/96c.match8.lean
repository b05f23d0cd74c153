/-! match -/
section MG
variable {E : AEn} {h h' : AHi} {hr : AHr} {n : Nat} {Q : ARs → Prop}
theorem Sma_0 {x k : Nat} (q : Sma x k) : sys x k = 0 := by
  unfold Sma at q
  rcases q with rfl | rfl | rfl | ⟨rfl, rfl | rfl⟩ <;> rfl
theorem Smb_0 {x k : Nat} (q : Smb x k) : sys x k = 0 := by
  unfold Smb at q
  rcases q with rfl | rfl <;> rfl
theorem Pmatch (F : FH hr) (hn : 775 ≤ n) (C3 : Cp3 h hr) (C9 : Cp9 h) (C10 : Cp10 h) (x y : Int32) : Pr2 E 164 273 [.int x, .int y] h hr n (Po Cp10 10 10 h hr n) := by
  obtain ⟨D, ρ, C⟩ := C3
  obtain ⟨m, f, g, h1, h2, h3, h4, h5, h6⟩ := C9
  obtain ⟨a, ha, ha', rfl⟩ := J_of x
  obtain ⟨b, hb, hb', rfl⟩ := J_of y
  unfold Pr2
  by_cases g1 : 0 ≤ a ∧ a ≤ 15
  case neg =>
    simp +decide (maxSteps := 4000000) (disch := omega) only [k164_0, k164_1, k164_2, k164_r, k164_s, F_il1, J_ifeq, F_il2, J_ifne, T_ft, T_I, T_ret, F_al0, T_getR, X_aald, F_is3i, F_is3r, F_is3m, F_il3, c81, c87, c137, ↓s137, FX F, g1, ↓reduceIte, TK, lt_run hn, le43, Int.le_refl, Int.lt_irrefl, Option.some.injEq, exists_eq_left', true_and, and_true, if_true, if_false, decide_eq_false_iff_not, decide_eq_true_eq, Nat.reduceAdd, Nat.reduceLeDiff, Nat.reduceLT, Int.reduceAdd, Int.reduceSub, Int.reduceMul, Int.reduceNeg, not_true_eq_false, not_false_eq_true]
    refine ⟨_, rfl, ?_⟩
    simp +decide (maxSteps := 4000000) (disch := omega) only [k273_0, k273_1, k273_2, k273_4, k273_r, k273_s, F_il1, J_ifeq, F_il2, J_ifne, T_ft, T_I, T_ret, F_al0, F_is3i, F_is3r, F_is3m, T_getR, X_iald, T_putI, T_putZ, F_is4i, F_is4r, F_is4m, F_il4, T_getI, T_icge, T_iast, F_inc4i, F_inc4r, F_inc4m, T_goto, F_il3, c218, c274, ↓s218, FM F, g1, ↓reduceIte, TK, lt_run hn, le43, Int.le_refl, Int.lt_irrefl, Option.some.injEq, exists_eq_left', true_and, and_true, if_true, if_false, decide_eq_false_iff_not, decide_eq_true_eq, Nat.reduceAdd, Nat.reduceLeDiff, Nat.reduceLT, Int.reduceAdd, Int.reduceSub, Int.reduceMul, Int.reduceNeg, not_true_eq_false, not_false_eq_true]
    first | exact ⟨rfl, ⟨C10, Kp.refl⟩, rfl, rfl⟩ | exact ⟨⟨C10, Kp.refl⟩, rfl, rfl⟩ | exact ⟨C10, Kp.refl⟩
  by_cases g2 : 0 ≤ b ∧ b ≤ 15
  case neg =>
    simp +decide (maxSteps := 4000000) (disch := omega) only [k164_0, k164_1, k164_2, k164_r, k164_s, F_il1, J_ifeq, F_il2, J_ifne, T_ft, T_I, T_ret, F_al0, T_getR, X_aald, F_is3i, F_is3r, F_is3m, F_il3, c81, c87, c137, ↓s137, FX F, g1, g2, ↓reduceIte, TK, lt_run hn, le43, Int.le_refl, Int.lt_irrefl, Option.some.injEq, exists_eq_left', true_and, and_true, if_true, if_false, decide_eq_false_iff_not, decide_eq_true_eq, Nat.reduceAdd, Nat.reduceLeDiff, Nat.reduceLT, Int.reduceAdd, Int.reduceSub, Int.reduceMul, Int.reduceNeg, not_true_eq_false, not_false_eq_true]
    refine ⟨_, rfl, ?_⟩
    simp +decide (maxSteps := 4000000) (disch := omega) only [k273_0, k273_1, k273_2, k273_4, k273_r, k273_s, F_il1, J_ifeq, F_il2, J_ifne, T_ft, T_I, T_ret, F_al0, F_is3i, F_is3r, F_is3m, T_getR, X_iald, T_putI, T_putZ, F_is4i, F_is4r, F_is4m, F_il4, T_getI, T_icge, T_iast, F_inc4i, F_inc4r, F_inc4m, T_goto, F_il3, c218, c274, ↓s218, FM F, g1, g2, ↓reduceIte, TK, lt_run hn, le43, Int.le_refl, Int.lt_irrefl, Option.some.injEq, exists_eq_left', true_and, and_true, if_true, if_false, decide_eq_false_iff_not, decide_eq_true_eq, Nat.reduceAdd, Nat.reduceLeDiff, Nat.reduceLT, Int.reduceAdd, Int.reduceSub, Int.reduceMul, Int.reduceNeg, not_true_eq_false, not_false_eq_true]
    first | exact ⟨rfl, ⟨C10, Kp.refl⟩, rfl, rfl⟩ | exact ⟨⟨C10, Kp.refl⟩, rfl, rfl⟩ | exact ⟨C10, Kp.refl⟩
  obtain ⟨P, c, M⟩ := C.2 a g1.1 (by omega)
  obtain ⟨P', c', M'⟩ := C.2 b g2.1 (by omega)
  have R := C.1 a
  have R' := C.1 b
  have x1 := X48 F g1.1 (show a < 16 by omega)
  have B := DB_d g1.1 (show a < 16 by omega)
  have x2 := B.x E F
  have y1 := X48 F g2.1 (show b < 16 by omega)
  have B' := DB_d g2.1 (show b < 16 by omega)
  have y2 := B'.x E F
  have H := mack_H R R' h1 h2 h3 h4
  have r1 := R.1
  have tr := maT_r H (D a).1.toNat 0
  simp +decide (maxSteps := 4000000) (disch := omega) only [k164_0, k164_1, k164_2, k164_r, k164_s, F_il1, J_ifeq, F_il2, J_ifne, T_ft, T_I, T_ret, F_al0, T_getR, X_aald, F_is3i, F_is3r, F_is3m, F_il3, c81, c87, c137, ↓s137, FX F, g1, g2, x1, x2, y1, y2, kd_48, ln_48, ↓reduceIte, TK, lt_run hn, le43, Int.le_refl, Int.lt_irrefl, Option.some.injEq, exists_eq_left', true_and, and_true, if_true, if_false, decide_eq_false_iff_not, decide_eq_true_eq, Nat.reduceAdd, Nat.reduceLeDiff, Nat.reduceLT, Int.reduceAdd, Int.reduceSub, Int.reduceMul, Int.reduceNeg, not_true_eq_false, not_false_eq_true]
  refine w81 F hn B B' (by omega) (by omega) P P' c c' R R' H h5.1 (fun i i0 i1 => (h6 i i0 i1).1) (fun k1 e1 e2 e3 => ?_)
  have e2' : ∀ (u v w : Int), cpA k1 96 u 97 v w 91 8 = J (D a).1 := fun u v w => by rw [cp_o (by decide)]; exact e2
  have l1 := ln_96 E
  have l2 := ln_97 E
  simp +decide (maxSteps := 4000000) (disch := omega) only [k164_0, k164_1, k164_2, k164_r, k164_s, F_il1, J_ifeq, F_il2, J_ifne, T_ft, T_I, T_ret, F_al0, T_getR, X_aald, F_is3i, F_is3r, F_is3m, F_il3, c81, c87, c137, ↓s137, FX F, ↓reduceIte, TK, lt_run hn, le43, Int.le_refl, Int.lt_irrefl, Option.some.injEq, exists_eq_left', true_and, and_true, if_true, if_false, decide_eq_false_iff_not, decide_eq_true_eq, Nat.reduceAdd, Nat.reduceLeDiff, Nat.reduceLT, Int.reduceAdd, Int.reduceSub, Int.reduceMul, Int.reduceNeg, not_true_eq_false, not_false_eq_true]
  simp +decide (maxSteps := 4000000) (disch := omega) only [k87_0, k87_r, k87_s, F_al0, T_getR, T_I, J_cp, T_getI, T_putI, T_putZ, T_ret, FX F, e2', ln_96, ln_97, kd_96, kd_97, ↓reduceIte, TK, lt_run hn, le43, Int.le_refl, Int.lt_irrefl, Option.some.injEq, exists_eq_left', true_and, and_true, if_true, if_false, decide_eq_false_iff_not, decide_eq_true_eq, Nat.reduceAdd, Nat.reduceLeDiff, Nat.reduceLT, Int.reduceAdd, Int.reduceSub, Int.reduceMul, Int.reduceNeg, not_true_eq_false, not_false_eq_true]
  try simp +decide (maxSteps := 4000000) (disch := omega) only [k164_0, k164_1, k164_2, k164_r, k164_s, F_il1, J_ifeq, F_il2, J_ifne, T_ft, T_I, T_ret, F_al0, T_getR, X_aald, F_is3i, F_is3r, F_is3m, F_il3, c81, c87, c137, ↓s137, ↓reduceIte, TK, lt_run hn, le43, Int.le_refl, Int.lt_irrefl, Option.some.injEq, exists_eq_left', true_and, and_true, if_true, if_false, decide_eq_false_iff_not, decide_eq_true_eq, Nat.reduceAdd, Nat.reduceLeDiff, Nat.reduceLT, Int.reduceAdd, Int.reduceSub, Int.reduceMul, Int.reduceNeg, not_true_eq_false, not_false_eq_true]
  refine ⟨_, rfl, ?_⟩
  have eh : ∀ k2 : AHi, k2 = hI (cpA k1 96 0 97 0 8) 91 7 (J (D a).1) → Ef (fun x k => Sma x k ∨ x = 97 ∨ (x = 91 ∧ k = 7)) h k2 ∧ k2 91 7 = J (D a).1 ∧ ∀ i, 0 ≤ i → i < (D a).1 → gA k2 97 i = J (maZ (mack (D a) (D b)) (D a).1 (D b).1 m f g i) := fun k2 e => by
    subst e
    refine ⟨Ef.hI (cp_e (e1.mono fun x k q => Or.inl q) (fun k => Or.inr (Or.inl rfl))) (Or.inr (Or.inr ⟨rfl, rfl⟩)), hI_s, fun i i0 i1 => ?_⟩
    rw [gA_o (by decide), cp_g (by decide) (by decide) (by decide) i0, if_pos (by omega), show 0 + (i - 0) = i by omega]
    exact e3 i i0 i1
  obtain ⟨d1, d2, d3⟩ := eh _ rfl
  generalize hI (cpA k1 96 0 97 0 8) 91 7 (J (D a).1) = k2 at *
  have ee : ∀ {q : Nat}, 159 ≤ q → ∀ k, k2 q k = h q k := fun {q} w k => d1 q k (fun z => by unfold Sma at z; omega)
  have es : Ef (fun x k => sys x k ≠ 3) h k2 := d1.mono fun x k q => by
    rcases q with q | rfl | ⟨rfl, rfl⟩
    · rw [Sma_0 q]
      decide
    · have : sys 97 k = 10 := rfl
      omega
    · decide
  have CC : Dw D ρ k2 hr := C.sm (fun x k q => es x k (fun z => z q))
  have n1 := (CC.2 a g1.1 (by omega)).2.2
  have n2 := (CC.2 b g2.1 (by omega)).2.2
  have m45 : k2 704 45 = J m := (ee (by omega) _).trans h5.2
  simp +decide (maxSteps := 4000000) (disch := omega) only [k273_0, k273_1, k273_2, k273_4, k273_r, k273_s, F_il1, J_ifeq, F_il2, J_ifne, T_ft, T_I, T_ret, F_al0, F_is3i, F_is3r, F_is3m, T_getR, X_iald, T_putI, T_putZ, F_is4i, F_is4r, F_is4m, F_il4, T_getI, T_icge, T_iast, F_inc4i, F_inc4r, F_inc4m, T_goto, F_il3, c218, c274, ↓s218, FM F, g1, g2, ↓reduceIte, TK, lt_run hn, le43, Int.le_refl, Int.lt_irrefl, Option.some.injEq, exists_eq_left', true_and, and_true, if_true, if_false, decide_eq_false_iff_not, decide_eq_true_eq, Nat.reduceAdd, Nat.reduceLeDiff, Nat.reduceLT, Int.reduceAdd, Int.reduceSub, Int.reduceMul, Int.reduceNeg, not_true_eq_false, not_false_eq_true]
  refine w274 F hn (by omega) (by omega) n1 n2 R R' H m45 (fun i i0 i1 => ?_) (fun k3 e4 e5 => ?_)
  · have := (h6 i i0 i1).2
    unfold gA at this ⊢
    rw [ee (by omega), ee (by omega)]
    exact this
  rw [← maT_e H]
  have m1 : gA k3 708 a = J (D a).1 := (e4.g (by unfold Smb; omega)).trans n1.1
  simp +decide (maxSteps := 4000000) (disch := omega) only [k273_0, k273_1, k273_2, k273_4, k273_r, k273_s, F_il1, J_ifeq, F_il2, J_ifne, T_ft, T_I, T_ret, F_al0, F_is3i, F_is3r, F_is3m, T_getR, X_iald, T_putI, T_putZ, F_is4i, F_is4r, F_is4m, F_il4, T_getI, T_icge, T_iast, F_inc4i, F_inc4r, F_inc4m, T_goto, F_il3, c218, c274, ↓s218, FM F, m1, ln_708, ↓reduceIte, TK, lt_run hn, le43, Int.le_refl, Int.lt_irrefl, Option.some.injEq, exists_eq_left', true_and, and_true, if_true, if_false, decide_eq_false_iff_not, decide_eq_true_eq, Nat.reduceAdd, Nat.reduceLeDiff, Nat.reduceLT, Int.reduceAdd, Int.reduceSub, Int.reduceMul, Int.reduceNeg, not_true_eq_false, not_false_eq_true]
  refine T_for (σ := Unit) (fun i _ => [.ref 704, .int (J a), .int (J b), .int (J (maT (maCC (mack (D a) (D b)) (D a).1 (D b).1 m f g) (D a).1 (D b).1 (D a).1.toNat 0)), .int (J i)]) (fun i _ h' => Ef (fun x k => x = 740 ∨ (x = 704 ∧ k = 49)) k3 h' ∧ h' 704 49 = J (D a).1 ∧ ∀ i', 0 ≤ i' → i' < i → gA h' 740 i' = J (maZ (mack (D a) (D b)) (D a).1 (D b).1 m f g i')) 0 (D a).1 ?_ ?_ 0 () _ (by omega) (by omega) ⟨Ef.hI Ef.refl (Or.inr ⟨rfl, rfl⟩), hI_s, fun i' _ _ => by omega⟩
  · rintro i _ h' i0 i1 ⟨q1, q2, q3⟩ ih
    have q4 : gA h' 741 i = J (maZ (mack (D a) (D b)) (D a).1 (D b).1 m f g i) := (q1.g (by omega)).trans (e5 i i0 i1)
    rw [k273_3]
    simp +decide (maxSteps := 4000000) (disch := omega) only [k273_0, k273_1, k273_2, k273_4, k273_r, k273_s, F_il1, J_ifeq, F_il2, J_ifne, T_ft, T_I, T_ret, F_al0, F_is3i, F_is3r, F_is3m, T_getR, X_iald, T_putI, T_putZ, F_is4i, F_is4r, F_is4m, F_il4, T_getI, T_icge, T_iast, F_inc4i, F_inc4r, F_inc4m, T_goto, F_il3, c218, c274, ↓s218, FM F, q2, q4, ln_740, ln_741, show ¬ (D a).1 ≤ i by omega, ↓reduceIte, TK, lt_run hn, le43, Int.le_refl, Int.lt_irrefl, Option.some.injEq, exists_eq_left', true_and, and_true, if_true, if_false, decide_eq_false_iff_not, decide_eq_true_eq, Nat.reduceAdd, Nat.reduceLeDiff, Nat.reduceLT, Int.reduceAdd, Int.reduceSub, Int.reduceMul, Int.reduceNeg, not_true_eq_false, not_false_eq_true]
    refine ih () _ ⟨Ef.sA q1 (Or.inl rfl), by rw [sA_o (by decide)]; exact q2, fun i' w1 w2 => ?_⟩
    by_cases z : i' = i
    · rw [z, gs_s]
    · rw [gs_k (by omega) (by omega) z]
      exact q3 i' w1 (by omega)
  · rintro _ h' ⟨q1, q2, q3⟩
    rw [k273_3]
    simp +decide (maxSteps := 4000000) (disch := omega) only [k273_0, k273_1, k273_2, k273_4, k273_r, k273_s, F_il1, J_ifeq, F_il2, J_ifne, T_ft, T_I, T_ret, F_al0, F_is3i, F_is3r, F_is3m, T_getR, X_iald, T_putI, T_putZ, F_is4i, F_is4r, F_is4m, F_il4, T_getI, T_icge, T_iast, F_inc4i, F_inc4r, F_inc4m, T_goto, F_il3, c218, c274, ↓s218, FM F, q2, ↓reduceIte, TK, lt_run hn, le43, Int.le_refl, Int.lt_irrefl, Option.some.injEq, exists_eq_left', true_and, and_true, if_true, if_false, decide_eq_false_iff_not, decide_eq_true_eq, Nat.reduceAdd, Nat.reduceLeDiff, Nat.reduceLT, Int.reduceAdd, Int.reduceSub, Int.reduceMul, Int.reduceNeg, not_true_eq_false, not_false_eq_true]
    have o1 : Ef (fun x k => Smb x k ∨ x = 740 ∨ (x = 704 ∧ k = 49)) k2 h' := (e4.mono fun x k q => Or.inl q).trans (q1.mono fun x k q => Or.inr q)
    have K : Kp 10 10 h h' := by
      refine Ef.trans (d1.mono fun x k q => ?_) (o1.mono fun x k q => ?_)
      · rcases q with q | rfl | ⟨rfl, rfl⟩
        · exact Or.inl (Sma_0 q)
        · exact Or.inr (Or.inl rfl)
        · exact Or.inr (Or.inl rfl)
      · rcases q with q | rfl | ⟨rfl, rfl⟩
        · exact Or.inl (Smb_0 q)
        · exact Or.inr (Or.inl rfl)
        · exact Or.inr (Or.inl rfl)
    have Z : Cp10 h' := by
      refine ⟨(D a).1, fun i => if 0 ≤ i ∧ i < (D a).1 then maZ (mack (D a) (D b)) (D a).1 (D b).1 m f g i else 0, r1, fun i => ?_, ⟨?_, q2⟩, fun i i0 i1 => ?_⟩
      · dsimp only
        split
        case isTrue w =>
          have := (maZ_e H w).2
          have := R'.1
          omega
        · omega
      · rw [o1 _ _ (by unfold Smb; omega)]
        exact d2
      · dsimp only
        rw [if_pos ⟨i0, i1⟩, o1.g (by unfold Smb; omega)]
        exact ⟨d3 i i0 i1, q3 i i0 i1⟩
    first | exact ⟨rfl, ⟨Z, K⟩, rfl, rfl⟩ | exact ⟨⟨Z, K⟩, rfl, rfl⟩
end MG
