/-! tween: the call -/
def twX (D D' : Drw) (m : Int) (f g : Int → Int) (a b : Int) : Drw := if a = 0 then D else if a = b then D' else lsD (twF D D' (maZ (mack D D') D.1 D'.1 m f g) (maS (maX (maCC (mack D D') D.1 D'.1 m f g) D.1 D'.1)) a b)
section TG
variable {E : AEn} {h h' : AHi} {hr : AHr} {n : Nat} {Q : ARs → Prop} {D D' : Drw} {m : Int} {f g : Int → Int} {a b d e t : Int}
theorem twX_r (R : DRr D) (R' : DRr D') (ha : 0 ≤ a ∧ a ≤ b) (hb : 1 ≤ b ∧ b ≤ 24) (H : maH (mack D D') D.1 D'.1 m f g) : DRr (twX D D' m f g a b) := by
  unfold twX
  split
  · exact R
  · split
    · exact R'
    · have := twF_r R R' ha hb H.tw
      exact lsD_r this.1 this.2
def Stc (b a k : Nat) : Prop := Sma a k ∨ Sb b a k ∨ (a = b ∧ k = 5) ∨ (b + 2 ≤ a ∧ a ≤ b + 4)
theorem w166 (F : FH hr) (hn : 775 ≤ n) {ρd ρe ρt : Nat → Nat} (hd : 0 ≤ d ∧ d ≤ 15) (he : 0 ≤ e ∧ e ≤ 15) (ht : 0 ≤ t ∧ t ≤ 15) (n1 : t ≠ d) (n2 : t ≠ e) (ha : 0 ≤ a ∧ a ≤ b) (hb : 1 ≤ b ∧ b ≤ 24) (Pd : PS hr (159 + 29 * d.toNat) ρd) (Pe : PS hr (159 + 29 * e.toNat) ρe) (Pt : PS hr (159 + 29 * t.toNat) ρt) (C : DC h (159 + 29 * d.toNat) ρd D) (C' : DC h (159 + 29 * e.toNat) ρe D') (R : DRr D) (R' : DRr D') (H : maH (mack D D') D.1 D'.1 m f g) (b1 : h 91 2 = J m) (b2 : ∀ i, 0 ≤ i → i < m → gA h 92 i = J (f i) ∧ gA h 93 i = J (g i)) {G G' : Fils} (Rg : FRr G) (Rg' : FRr G') (Cg : FC h (159 + 29 * d.toNat) G) (Cg' : FC h (159 + 29 * e.toNat) G')
    (k : ∀ h', Ef (Stc (159 + 29 * t.toNat)) h h' → DC h' (159 + 29 * t.toNat) ρt (twX D D' m f g a b) → FC h' (159 + 29 * t.toNat) (if 2 * a < b then G else G') → Q (some (.int (J (twX D D' m f g a b).1)), h', hr, n)) : Sp E 166 [.ref 43, .int (J d), .int (J e), .int (J a), .int (J b), .int (J t)] h hr n Q := by
  have x1 := X48 F hd.1 (show d < 16 by omega)
  have Bd := DB_d hd.1 (show d < 16 by omega)
  have x2 := Bd.x E F
  have y1 := X48 F he.1 (show e < 16 by omega)
  have Be := DB_d he.1 (show e < 16 by omega)
  have y2 := Be.x E F
  have z1 := X48 F ht.1 (show t < 16 by omega)
  have Bt := DB_d ht.1 (show t < 16 by omega)
  have z2 := Bt.x E F
  have RX := twX_r R R' ha hb H
  have rx := RX.1
  have fin : ∀ h1, Ef (fun x k => Sma x k ∨ Sb (159 + 29 * t.toNat) x k) h h1 → DC h1 (159 + 29 * t.toNat) ρt (twX D D' m f g a b) → Tm E 166 (a_bl 166 7) [.ref 43, .int (J d), .int (J e), .int (J a), .int (J b), .int (J t), .ref (159 + 29 * t.toNat)] [] h1 hr n Q := fun h1 e1 c1 => by
    have c2 := c1.1
    have nf : ∀ q : Int, 0 ≤ q ∧ q ≤ 15 → t ≠ q → ∀ x k, 159 + 29 * q.toNat ≤ x → x ≤ 159 + 29 * q.toNat + 4 → ¬ (Sma x k ∨ Sb (159 + 29 * t.toNat) x k) := fun q q0 q1 x k q2 q3 z => by
      unfold Sma Sb at z
      omega
    have C1 := Cg.ef e1 (nf d hd n1)
    have C2 := Cg'.ef e1 (nf e he n2)
    have tail : ∀ (h2 : AHi) (G0 : Fils), G0 = (if 2 * a < b then G else G') → FC h2 (159 + 29 * t.toNat) G0 → Ef (fun a k => (a = 159 + 29 * t.toNat ∧ k = 5) ∨ (159 + 29 * t.toNat + 2 ≤ a ∧ a ≤ 159 + 29 * t.toNat + 4)) h1 h2 → h2 (159 + 29 * t.toNat) 1 = J (twX D D' m f g a b).1 ∧ Q (some (.int (J (twX D D' m f g a b).1)), h2, hr, n) := fun h2 G0 q1 q2 q3 => by
      refine ⟨(q3 _ _ (by omega)).trans c2, k h2 (Ef.trans (e1.mono fun x k q => ?_) (q3.mono fun x k q => Or.inr (Or.inr q))) ⟨(q3 _ _ (by omega)).trans c2, fun s s0 s1 => ?_⟩ (q1 ▸ q2)⟩
      · rcases q with q | q
        · exact Or.inl q
        · exact Or.inr (Or.inl q)
      · have pr := Pt.r (s := s.toNat) (by omega)
        exact (c1.2 s s0 s1).ef q3 (fun x k q1 q2 q => by omega)
    rw [k166_7]
    by_cases g1 : 2 * a < b
    · simp +decide (maxSteps := 4000000) (disch := omega) only [k166_0, k166_1, k166_2, k166_3, k166_4, k166_5, k166_6, k166_7, k166_8, k166_9, k166_r, k166_s, F_il1, J_ifeq, F_il2, F_il5, J_ifne, T_ft, T_I, T_ret, F_il4, F_il3, T_iceq, J_icne, F_al0, T_getR, X_aald, F_as6i, F_as6r, F_as6m, F_al6, T_goto, T_popI, T_mul, T_icge, T_getI, c43, c46, c48, c81, c137, c138, ↓s137, ↓s138, FX F, x1, x2, y1, y2, z2, kd_48, ln_48, g1, show ¬ b ≤ 2 * a by omega, ↓reduceIte, TK, lt_run hn, le43, Int.le_refl, Int.lt_irrefl, Option.some.injEq, exists_eq_left', true_and, and_true, if_true, if_false, decide_eq_false_iff_not, decide_eq_true_eq, Nat.reduceAdd, Nat.reduceLeDiff, Nat.reduceLT, Int.reduceAdd, Int.reduceSub, Int.reduceMul, Int.reduceNeg, not_true_eq_false, not_false_eq_true]
      refine w48 F hn Bt Bd (by omega) Rg C1 (fun h2 q2 q3 => ?_)
      obtain ⟨q4, q5⟩ := tail h2 G (by rw [if_pos g1]) q2 q3
      simp +decide (maxSteps := 4000000) (disch := omega) only [k166_0, k166_1, k166_2, k166_3, k166_4, k166_5, k166_6, k166_7, k166_8, k166_9, k166_r, k166_s, F_il1, J_ifeq, F_il2, F_il5, J_ifne, T_ft, T_I, T_ret, F_il4, F_il3, T_iceq, J_icne, F_al0, T_getR, X_aald, F_as6i, F_as6r, F_as6m, F_al6, T_goto, T_popI, T_mul, T_icge, T_getI, c43, c46, c48, c81, c137, c138, ↓s137, ↓s138, z2, q4, ↓reduceIte, TK, lt_run hn, le43, Int.le_refl, Int.lt_irrefl, Option.some.injEq, exists_eq_left', true_and, and_true, if_true, if_false, decide_eq_false_iff_not, decide_eq_true_eq, Nat.reduceAdd, Nat.reduceLeDiff, Nat.reduceLT, Int.reduceAdd, Int.reduceSub, Int.reduceMul, Int.reduceNeg, not_true_eq_false, not_false_eq_true]
      exact q5
    · simp +decide (maxSteps := 4000000) (disch := omega) only [k166_0, k166_1, k166_2, k166_3, k166_4, k166_5, k166_6, k166_7, k166_8, k166_9, k166_r, k166_s, F_il1, J_ifeq, F_il2, F_il5, J_ifne, T_ft, T_I, T_ret, F_il4, F_il3, T_iceq, J_icne, F_al0, T_getR, X_aald, F_as6i, F_as6r, F_as6m, F_al6, T_goto, T_popI, T_mul, T_icge, T_getI, c43, c46, c48, c81, c137, c138, ↓s137, ↓s138, FX F, x1, x2, y1, y2, z2, kd_48, ln_48, g1, show b ≤ 2 * a by omega, ↓reduceIte, TK, lt_run hn, le43, Int.le_refl, Int.lt_irrefl, Option.some.injEq, exists_eq_left', true_and, and_true, if_true, if_false, decide_eq_false_iff_not, decide_eq_true_eq, Nat.reduceAdd, Nat.reduceLeDiff, Nat.reduceLT, Int.reduceAdd, Int.reduceSub, Int.reduceMul, Int.reduceNeg, not_true_eq_false, not_false_eq_true]
      refine w48 F hn Bt Be (by omega) Rg' C2 (fun h2 q2 q3 => ?_)
      obtain ⟨q4, q5⟩ := tail h2 G' (by rw [if_neg g1]) q2 q3
      simp +decide (maxSteps := 4000000) (disch := omega) only [k166_0, k166_1, k166_2, k166_3, k166_4, k166_5, k166_6, k166_7, k166_8, k166_9, k166_r, k166_s, F_il1, J_ifeq, F_il2, F_il5, J_ifne, T_ft, T_I, T_ret, F_il4, F_il3, T_iceq, J_icne, F_al0, T_getR, X_aald, F_as6i, F_as6r, F_as6m, F_al6, T_goto, T_popI, T_mul, T_icge, T_getI, c43, c46, c48, c81, c137, c138, ↓s137, ↓s138, z2, q4, ↓reduceIte, TK, lt_run hn, le43, Int.le_refl, Int.lt_irrefl, Option.some.injEq, exists_eq_left', true_and, and_true, if_true, if_false, decide_eq_false_iff_not, decide_eq_true_eq, Nat.reduceAdd, Nat.reduceLeDiff, Nat.reduceLT, Int.reduceAdd, Int.reduceSub, Int.reduceMul, Int.reduceNeg, not_true_eq_false, not_false_eq_true]
      exact q5
  by_cases g0 : a = 0
  · have g9 : (J a = J 0) := by rw [g0]
    simp +decide (maxSteps := 4000000) (disch := omega) only [k166_0, k166_1, k166_2, k166_3, k166_4, k166_5, k166_6, k166_8, k166_9, k166_r, k166_s, F_il1, J_ifeq, F_il2, F_il5, J_ifne, T_ft, T_I, T_ret, F_il4, F_il3, T_iceq, J_icne, F_al0, T_getR, X_aald, F_as6i, F_as6r, F_as6m, F_al6, T_goto, T_popI, T_mul, T_icge, T_getI, c43, c46, c48, c81, c137, c138, ↓s137, ↓s138, FX F, hd, he, ht, hb, ha, n1, n2, x1, x2, z1, z2, kd_48, ln_48, eq_true g0, ↓reduceIte, TK, lt_run hn, le43, Int.le_refl, Int.lt_irrefl, Option.some.injEq, exists_eq_left', true_and, and_true, if_true, if_false, decide_eq_false_iff_not, decide_eq_true_eq, Nat.reduceAdd, Nat.reduceLeDiff, Nat.reduceLT, Int.reduceAdd, Int.reduceSub, Int.reduceMul, Int.reduceNeg, not_true_eq_false, not_false_eq_true]
    refine w43 F hn Bt Bd Pt Pd (by omega) R C (fun h1 c1 e1 => ?_)
    simp +decide (maxSteps := 4000000) (disch := omega) only [k166_0, k166_1, k166_2, k166_3, k166_4, k166_5, k166_6, k166_8, k166_9, k166_r, k166_s, F_il1, J_ifeq, F_il2, F_il5, J_ifne, T_ft, T_I, T_ret, F_il4, F_il3, T_iceq, J_icne, F_al0, T_getR, X_aald, F_as6i, F_as6r, F_as6m, F_al6, T_goto, T_popI, T_mul, T_icge, T_getI, c43, c46, c48, c81, c137, c138, ↓s137, ↓s138, ↓reduceIte, TK, lt_run hn, le43, Int.le_refl, Int.lt_irrefl, Option.some.injEq, exists_eq_left', true_and, and_true, if_true, if_false, decide_eq_false_iff_not, decide_eq_true_eq, Nat.reduceAdd, Nat.reduceLeDiff, Nat.reduceLT, Int.reduceAdd, Int.reduceSub, Int.reduceMul, Int.reduceNeg, not_true_eq_false, not_false_eq_true]
    have ex : twX D D' m f g a b = D := by unfold twX; rw [if_pos g0]
    exact fin h1 (e1.mono fun x k q => Or.inr q) (by rw [ex]; exact c1)
  by_cases g1 : a = b
  · simp +decide (maxSteps := 4000000) (disch := omega) only [k166_0, k166_1, k166_2, k166_3, k166_4, k166_5, k166_6, k166_8, k166_9, k166_r, k166_s, F_il1, J_ifeq, F_il2, F_il5, J_ifne, T_ft, T_I, T_ret, F_il4, F_il3, T_iceq, J_icne, F_al0, T_getR, X_aald, F_as6i, F_as6r, F_as6m, F_al6, T_goto, T_popI, T_mul, T_icge, T_getI, c43, c46, c48, c81, c137, c138, ↓s137, ↓s138, FX F, hd, he, ht, hb, ha, n1, n2, y1, y2, z1, z2, kd_48, ln_48, g0, eq_true g1, ↓reduceIte, TK, lt_run hn, le43, Int.le_refl, Int.lt_irrefl, Option.some.injEq, exists_eq_left', true_and, and_true, if_true, if_false, decide_eq_false_iff_not, decide_eq_true_eq, Nat.reduceAdd, Nat.reduceLeDiff, Nat.reduceLT, Int.reduceAdd, Int.reduceSub, Int.reduceMul, Int.reduceNeg, not_true_eq_false, not_false_eq_true]
    refine w43 F hn Bt Be Pt Pe (by omega) R' C' (fun h1 c1 e1 => ?_)
    simp +decide (maxSteps := 4000000) (disch := omega) only [k166_0, k166_1, k166_2, k166_3, k166_4, k166_5, k166_6, k166_8, k166_9, k166_r, k166_s, F_il1, J_ifeq, F_il2, F_il5, J_ifne, T_ft, T_I, T_ret, F_il4, F_il3, T_iceq, J_icne, F_al0, T_getR, X_aald, F_as6i, F_as6r, F_as6m, F_al6, T_goto, T_popI, T_mul, T_icge, T_getI, c43, c46, c48, c81, c137, c138, ↓s137, ↓s138, ↓reduceIte, TK, lt_run hn, le43, Int.le_refl, Int.lt_irrefl, Option.some.injEq, exists_eq_left', true_and, and_true, if_true, if_false, decide_eq_false_iff_not, decide_eq_true_eq, Nat.reduceAdd, Nat.reduceLeDiff, Nat.reduceLT, Int.reduceAdd, Int.reduceSub, Int.reduceMul, Int.reduceNeg, not_true_eq_false, not_false_eq_true]
    have ex : twX D D' m f g a b = D' := by unfold twX; rw [if_neg g0, if_pos g1]
    exact fin h1 (e1.mono fun x k q => Or.inr q) (by rw [ex]; exact c1)
  · simp +decide (maxSteps := 4000000) (disch := omega) only [k166_0, k166_1, k166_2, k166_3, k166_4, k166_5, k166_6, k166_8, k166_9, k166_r, k166_s, F_il1, J_ifeq, F_il2, F_il5, J_ifne, T_ft, T_I, T_ret, F_il4, F_il3, T_iceq, J_icne, F_al0, T_getR, X_aald, F_as6i, F_as6r, F_as6m, F_al6, T_goto, T_popI, T_mul, T_icge, T_getI, c43, c46, c48, c81, c137, c138, ↓s137, ↓s138, FX F, hd, he, ht, hb, ha, n1, n2, x1, x2, y1, y2, z1, z2, kd_48, ln_48, g0, g1, ↓reduceIte, TK, lt_run hn, le43, Int.le_refl, Int.lt_irrefl, Option.some.injEq, exists_eq_left', true_and, and_true, if_true, if_false, decide_eq_false_iff_not, decide_eq_true_eq, Nat.reduceAdd, Nat.reduceLeDiff, Nat.reduceLT, Int.reduceAdd, Int.reduceSub, Int.reduceMul, Int.reduceNeg, not_true_eq_false, not_false_eq_true]
    refine w81 F hn Bd Be (by omega) (by omega) Pd Pe C C' R R' H b1 b2 (fun h1 e1 e2 e3 => ?_)
    have nS : ∀ x k, 159 ≤ x → ¬ Sma x k := fun x k q z => by unfold Sma at z; omega
    have rd1 := R.1
    have re1 := R'.1
    have c1 : DC h1 (159 + 29 * d.toNat) ρd D := ⟨(e1 _ _ (nS _ _ (by omega))).trans C.1, fun s s0 s1 => by
      have pr := Pd.r (s := s.toNat) (by omega)
      exact (C.2 s s0 s1).ef e1 (fun x k q1 q2 => nS x k (by omega))⟩
    have c2 : DC h1 (159 + 29 * e.toNat) ρe D' := ⟨(e1 _ _ (nS _ _ (by omega))).trans C'.1, fun s s0 s1 => by
      have pr := Pe.r (s := s.toNat) (by omega)
      exact (C'.2 s s0 s1).ef e1 (fun x k q1 q2 => nS x k (by omega))⟩
    simp +decide (maxSteps := 4000000) (disch := omega) only [k166_0, k166_1, k166_2, k166_3, k166_4, k166_5, k166_6, k166_8, k166_9, k166_r, k166_s, F_il1, J_ifeq, F_il2, F_il5, J_ifne, T_ft, T_I, T_ret, F_il4, F_il3, T_iceq, J_icne, F_al0, T_getR, X_aald, F_as6i, F_as6r, F_as6m, F_al6, T_goto, T_popI, T_mul, T_icge, T_getI, c43, c46, c48, c81, c137, c138, ↓s137, ↓s138, FX F, x1, x2, y1, y2, z2, kd_48, ln_48, kd_96, ↓reduceIte, TK, lt_run hn, le43, Int.le_refl, Int.lt_irrefl, Option.some.injEq, exists_eq_left', true_and, and_true, if_true, if_false, decide_eq_false_iff_not, decide_eq_true_eq, Nat.reduceAdd, Nat.reduceLeDiff, Nat.reduceLT, Int.reduceAdd, Int.reduceSub, Int.reduceMul, Int.reduceNeg, not_true_eq_false, not_false_eq_true]
    refine w46 F hn Bt Bd Be (by omega) (by omega) (by omega) Pt Pd Pe c1 c2 R R' H.tw e3 ha hb (fun h2 e4 c4 => ?_)
    simp +decide (maxSteps := 4000000) (disch := omega) only [k166_0, k166_1, k166_2, k166_3, k166_4, k166_5, k166_6, k166_8, k166_9, k166_r, k166_s, F_il1, J_ifeq, F_il2, F_il5, J_ifne, T_ft, T_I, T_ret, F_il4, F_il3, T_iceq, J_icne, F_al0, T_getR, X_aald, F_as6i, F_as6r, F_as6m, F_al6, T_goto, T_popI, T_mul, T_icge, T_getI, c43, c46, c48, c81, c137, c138, ↓s137, ↓s138, ↓reduceIte, TK, lt_run hn, le43, Int.le_refl, Int.lt_irrefl, Option.some.injEq, exists_eq_left', true_and, and_true, if_true, if_false, decide_eq_false_iff_not, decide_eq_true_eq, Nat.reduceAdd, Nat.reduceLeDiff, Nat.reduceLT, Int.reduceAdd, Int.reduceSub, Int.reduceMul, Int.reduceNeg, not_true_eq_false, not_false_eq_true]
    have ex : twX D D' m f g a b = lsD (twF D D' (maZ (mack D D') D.1 D'.1 m f g) (maS (maX (maCC (mack D D') D.1 D'.1 m f g) D.1 D'.1)) a b) := by unfold twX; rw [if_neg g0, if_neg g1]
    exact fin h2 (Ef.trans (e1.mono fun x k q => Or.inl q) (e4.mono fun x k q => Or.inr q)) (by rw [ex]; exact c4)
end TG
