/-! language -/
def grs (b : Int → Int) (t : Int) : Nat → Int → Int → (Int → Int) → Int × Int × (Int → Int)
  | 0, _, _, D => (0, 0, D)
  | q + 1, m, p, D => if (grp b t p D).1 = -1 then (if t ≤ (grp b t p D).2.1 then (-1, m + 1, (grp b t p D).2.2) else if bt b t (grp b t p D).2.1 = 32 then grs b t q (m + 1) ((grp b t p D).2.1 + 1) (grp b t p D).2.2 else ((grp b t p D).2.1, 0, D)) else ((grp b t p D).1, 0, D)
section LH
variable {E : AEn} {h h' : AHi} {hr : AHr} {n : Nat} {Q : ARs → Prop} {t p f m k w e : Int} {b D : Int → Int}
theorem grs_b (ht : 0 ≤ t ∧ t ≤ 1600) (hb : ∀ i, 0 ≤ b i ∧ b i ≤ 255) : ∀ (q : Nat) (m p : Int) (D : Int → Int), t - p < q → 0 ≤ p → p ≤ t → 0 ≤ m → 2 * m ≤ p → R7 D → ((grs b t q m p D).1 = -1 ∨ 0 ≤ (grs b t q m p D).1 ∧ (grs b t q m p D).1 ≤ 1700) ∧ ((grs b t q m p D).1 = -1 → (0 ≤ (grs b t q m p D).2.1 ∧ (grs b t q m p D).2.1 ≤ 1700) ∧ R7 (grs b t q m p D).2.2) := by
  intro q
  induction q with
  | zero => intro m p D q0 p0 p1; omega
  | succ q ih =>
    intro m p D q0 p0 p1 m0 m1 hD
    have K := grp_b ht hb (p := p) (by omega) hD
    unfold grs
    generalize grp b t p D = r at *
    by_cases g : r.1 = -1
    · obtain ⟨⟨u1, u2⟩, u5⟩ := K.2 g
      rw [if_pos g]
      by_cases g1 : t ≤ r.2.1
      · rw [if_pos g1]
        exact ⟨Or.inl rfl, fun _ => ⟨by dsimp only; omega, u5⟩⟩
      · rw [if_neg g1]
        by_cases g2 : bt b t r.2.1 = 32
        · rw [if_pos g2]
          exact ih _ _ _ (by omega) (by omega) (by omega) (by omega) (by omega) u5
        · rw [if_neg g2]
          exact ⟨Or.inr (by dsimp only; omega), fun z => by dsimp only at z; omega⟩
    · rw [if_neg g]
      exact ⟨K.1, fun z => absurd z g⟩
theorem z69 (F : FH hr) (hn : 775 ≤ n) : ∀ (q : Nat) (p m : Int) (D : Int → Int) (h : AHi), t - p < q → 0 ≤ p → p ≤ t → 0 ≤ m → 2 * m ≤ p → R7 D → TpC h t b → Rk h 107 26 D →
    (∀ h' p' m' (v3 v4 : Int32), 0 ≤ p' → p' ≤ 1700 → Ef (fun a _ => a = 107) h h' → ((grs b t q m p D).1 = -1 → m' = (grs b t q m p D).2.1 ∧ Rk h' 107 26 (grs b t q m p D).2.2) → Tm E 69 (a_bl 69 2) [.ref 105, .ref 44, .int (J m'), .int v3, .int v4] [] (RS h' p' (grs b t q m p D).1) hr n Q) →
    Tm E 69 (a_bl 69 1) [.ref 105, .ref 44, .int (J m), .int (J 1), .int (J m)] [] (RS h p (-1)) hr n Q := by
  intro q
  induction q with
  | zero => intro p m D h q0 p0 p1; omega
  | succ q ih =>
    intro p m D h q0 p0 p1 m0 m1 hD T R kk
    have t1 := T.1
    have K := grp_b T.1 T.2.1 (p := p) (by omega) hD
    rw [k69_1]
    simp +decide (maxSteps := 4000000) (disch := omega) only [k69_0, k69_3, k69_r, k69_s, F_al1, F_al0, T_getR, T_I, J_cp, F_is2i, F_is2r, F_is2m, F_is3i, F_is3r, F_is3m, F_is4i, F_is4r, F_is4m, T_ft, F_il3, J_ifeq, F_il4, T_icge, F_inc2i, F_inc2r, F_inc2m, F_inc4i, F_inc4r, F_inc4m, T_goto, J_ifne, T_ret, F_il2, c13, c16, c20, c24, c70, ↓s13, ↓s16, ↓s20, ↓s24, FX F, kd_44, kd_105, show ¬ 1600 ≤ m by omega, ↓reduceIte, TK, lt_run hn, le43, Int.le_refl, Int.lt_irrefl, Option.some.injEq, exists_eq_left', true_and, and_true, if_true, if_false, decide_eq_false_iff_not, decide_eq_true_eq, Nat.reduceAdd, Nat.reduceLeDiff, Nat.reduceLT, Int.reduceAdd, Int.reduceSub, Int.reduceMul, Int.reduceNeg, not_true_eq_false, not_false_eq_true]
    refine w70 F hn T R hD (by omega) (fun h1 w w0 w1 e1 gd => ?_)
    have T1 : TpC h1 t b := T.ef e1 (by decide) (fun k => by omega)
    unfold grs at kk
    generalize grp b t p D = r at *
    by_cases g : r.1 = -1
    · obtain ⟨ep, R1⟩ := gd g
      obtain ⟨⟨u1, u2⟩, u5⟩ := K.2 g
      rw [if_pos g, ← ep] at kk
      rw [← ep] at u1 u2
      rw [g]
      by_cases g1 : t ≤ w
      · rw [if_pos g1] at kk
        have fin := kk h1 w (m + 1) (J 0) (J (m + 1)) w0 w1 e1 (fun _ => ⟨rfl, R1⟩)
        simp +decide (maxSteps := 4000000) (disch := omega) only [k69_0, k69_2, k69_3, k69_r, k69_s, F_al1, F_al0, T_getR, T_I, J_cp, F_is2i, F_is2r, F_is2m, F_is3i, F_is3r, F_is3m, F_is4i, F_is4r, F_is4m, T_ft, F_il3, J_ifeq, F_il4, T_icge, F_inc2i, F_inc2r, F_inc2m, F_inc4i, F_inc4r, F_inc4m, T_goto, J_ifne, T_ret, F_il2, c13, c16, c20, c24, c70, ↓s13, ↓s16, ↓s24, ↓s20 F hn T1, show ¬ w < t by omega, kd_44, ↓reduceIte, TK, lt_run hn, le43, Int.le_refl, Int.lt_irrefl, Option.some.injEq, exists_eq_left', true_and, and_true, if_true, if_false, decide_eq_false_iff_not, decide_eq_true_eq, Nat.reduceAdd, Nat.reduceLeDiff, Nat.reduceLT, Int.reduceAdd, Int.reduceSub, Int.reduceMul, Int.reduceNeg, not_true_eq_false, not_false_eq_true]
        rw [k69_1]
        simp +decide (maxSteps := 4000000) (disch := omega) only [k69_0, k69_3, k69_r, k69_s, F_al1, F_al0, T_getR, T_I, J_cp, F_is2i, F_is2r, F_is2m, F_is3i, F_is3r, F_is3m, F_is4i, F_is4r, F_is4m, T_ft, F_il3, J_ifeq, F_il4, T_icge, F_inc2i, F_inc2r, F_inc2m, F_inc4i, F_inc4r, F_inc4m, T_goto, J_ifne, T_ret, F_il2, c13, c16, c20, c24, c70, ↓s13, ↓s16, ↓s20, ↓s24, ↓reduceIte, TK, lt_run hn, le43, Int.le_refl, Int.lt_irrefl, Option.some.injEq, exists_eq_left', true_and, and_true, if_true, if_false, decide_eq_false_iff_not, decide_eq_true_eq, Nat.reduceAdd, Nat.reduceLeDiff, Nat.reduceLT, Int.reduceAdd, Int.reduceSub, Int.reduceMul, Int.reduceNeg, not_true_eq_false, not_false_eq_true]
        exact fin
      · rw [if_neg g1] at kk
        by_cases g2 : bt b t w = 32
        · rw [if_pos g2] at kk
          simp +decide (maxSteps := 4000000) (disch := omega) only [k69_0, k69_2, k69_3, k69_r, k69_s, F_al1, F_al0, T_getR, T_I, J_cp, F_is2i, F_is2r, F_is2m, F_is3i, F_is3r, F_is3m, F_is4i, F_is4r, F_is4m, T_ft, F_il3, J_ifeq, F_il4, T_icge, F_inc2i, F_inc2r, F_inc2m, F_inc4i, F_inc4r, F_inc4m, T_goto, J_ifne, T_ret, F_il2, c13, c16, c20, c24, c70, ↓s13, ↓s16, ↓s24, ↓s20 F hn T1, show w < t by omega, g2, kd_44, ↓reduceIte, TK, lt_run hn, le43, Int.le_refl, Int.lt_irrefl, Option.some.injEq, exists_eq_left', true_and, and_true, if_true, if_false, decide_eq_false_iff_not, decide_eq_true_eq, Nat.reduceAdd, Nat.reduceLeDiff, Nat.reduceLT, Int.reduceAdd, Int.reduceSub, Int.reduceMul, Int.reduceNeg, not_true_eq_false, not_false_eq_true]
          exact ih (w + 1) (m + 1) _ h1 (by omega) (by omega) (by omega) (by omega) (by omega) u5 T1 R1 (fun h' p' m' v3 v4 a1 a2 a3 => kk h' p' m' v3 v4 a1 a2 (e1.trans a3))
        · rw [if_neg g2] at kk
          have fin := kk h1 w (m + 1) (J 0) (J (m + 1)) w0 w1 e1 (fun z => by dsimp only at z; omega)
          simp +decide (maxSteps := 4000000) (disch := omega) only [k69_0, k69_2, k69_3, k69_r, k69_s, F_al1, F_al0, T_getR, T_I, J_cp, F_is2i, F_is2r, F_is2m, F_is3i, F_is3r, F_is3m, F_is4i, F_is4r, F_is4m, T_ft, F_il3, J_ifeq, F_il4, T_icge, F_inc2i, F_inc2r, F_inc2m, F_inc4i, F_inc4r, F_inc4m, T_goto, J_ifne, T_ret, F_il2, c13, c16, c20, c24, c70, ↓s13, ↓s16, ↓s24, ↓s20 F hn T1, show w < t by omega, g2, kd_44, ↓reduceIte, TK, lt_run hn, le43, Int.le_refl, Int.lt_irrefl, Option.some.injEq, exists_eq_left', true_and, and_true, if_true, if_false, decide_eq_false_iff_not, decide_eq_true_eq, Nat.reduceAdd, Nat.reduceLeDiff, Nat.reduceLT, Int.reduceAdd, Int.reduceSub, Int.reduceMul, Int.reduceNeg, not_true_eq_false, not_false_eq_true]
          rw [k69_1]
          simp +decide (maxSteps := 4000000) (disch := omega) only [k69_0, k69_3, k69_r, k69_s, F_al1, F_al0, T_getR, T_I, J_cp, F_is2i, F_is2r, F_is2m, F_is3i, F_is3r, F_is3m, F_is4i, F_is4r, F_is4m, T_ft, F_il3, J_ifeq, F_il4, T_icge, F_inc2i, F_inc2r, F_inc2m, F_inc4i, F_inc4r, F_inc4m, T_goto, J_ifne, T_ret, F_il2, c13, c16, c20, c24, c70, ↓s13, ↓s16, ↓s20, ↓s24, ↓reduceIte, TK, lt_run hn, le43, Int.le_refl, Int.lt_irrefl, Option.some.injEq, exists_eq_left', true_and, and_true, if_true, if_false, decide_eq_false_iff_not, decide_eq_true_eq, Nat.reduceAdd, Nat.reduceLeDiff, Nat.reduceLT, Int.reduceAdd, Int.reduceSub, Int.reduceMul, Int.reduceNeg, not_true_eq_false, not_false_eq_true]
          exact fin
    · rw [if_neg g] at kk
      have fb := K.1
      have fin := kk h1 w (m + 1) (J 0) (J (m + 1)) w0 w1 e1 (fun z => absurd z g)
      simp +decide (maxSteps := 4000000) (disch := omega) only [k69_0, k69_2, k69_3, k69_r, k69_s, F_al1, F_al0, T_getR, T_I, J_cp, F_is2i, F_is2r, F_is2m, F_is3i, F_is3r, F_is3m, F_is4i, F_is4r, F_is4m, T_ft, F_il3, J_ifeq, F_il4, T_icge, F_inc2i, F_inc2r, F_inc2m, F_inc4i, F_inc4r, F_inc4m, T_goto, J_ifne, T_ret, F_il2, c13, c16, c20, c24, c70, ↓s13, ↓s16, ↓s24, ↓s20 F hn T1, g, false_and, kd_44, ↓reduceIte, TK, lt_run hn, le43, Int.le_refl, Int.lt_irrefl, Option.some.injEq, exists_eq_left', true_and, and_true, if_true, if_false, decide_eq_false_iff_not, decide_eq_true_eq, Nat.reduceAdd, Nat.reduceLeDiff, Nat.reduceLT, Int.reduceAdd, Int.reduceSub, Int.reduceMul, Int.reduceNeg, not_true_eq_false, not_false_eq_true]
      rw [k69_1]
      simp +decide (maxSteps := 4000000) (disch := omega) only [k69_0, k69_3, k69_r, k69_s, F_al1, F_al0, T_getR, T_I, J_cp, F_is2i, F_is2r, F_is2m, F_is3i, F_is3r, F_is3m, F_is4i, F_is4r, F_is4m, T_ft, F_il3, J_ifeq, F_il4, T_icge, F_inc2i, F_inc2r, F_inc2m, F_inc4i, F_inc4r, F_inc4m, T_goto, J_ifne, T_ret, F_il2, c13, c16, c20, c24, c70, ↓s13, ↓s16, ↓s20, ↓s24, ↓reduceIte, TK, lt_run hn, le43, Int.le_refl, Int.lt_irrefl, Option.some.injEq, exists_eq_left', true_and, and_true, if_true, if_false, decide_eq_false_iff_not, decide_eq_true_eq, Nat.reduceAdd, Nat.reduceLeDiff, Nat.reduceLT, Int.reduceAdd, Int.reduceSub, Int.reduceMul, Int.reduceNeg, not_true_eq_false, not_false_eq_true]
      exact fin
theorem RS_id {h : AHi} {p f : Int} (e1 : h 44 2 = J p) (e2 : h 44 3 = J f) : RS h p f = h := by
  funext x y
  by_cases g : x = 44
  · subst g
    by_cases g2 : y = 3
    · subst g2
      rw [RS_3, e2]
    · by_cases g3 : y = 2
      · subst g3
        rw [RS_2, e1]
      · unfold RS
        rw [hI_k g2, hI_k g3]
  · rw [RS_o g]
/-- what the class's reading of a language changes -/
def Slc (a k : Nat) : Prop := (a = 44 ∧ (k = 2 ∨ k = 3)) ∨ a = 107
theorem w69 (F : FH hr) (hn : 775 ≤ n) (T : TpC h t b) (R : Rk h 106 26 D) (hD : R7 D)
    (k1 : ∀ h', Ef Slc h h' → (grs b t 1602 0 0 D).1 ≠ -1 → Q (some (.int (J (-1000 - (grs b t 1602 0 0 D).1))), h', hr, n))
    (k2 : ∀ h', Ef (fun a k => Slc a k ∨ a = 106) h h' → (grs b t 1602 0 0 D).1 = -1 → Rk h' 106 26 (grs b t 1602 0 0 D).2.2 → Q (some (.int (J (grs b t 1602 0 0 D).2.1)), h', hr, n)) : Sp E 69 [.ref 105, .ref 44] h hr n Q := by
  have t1 := T.1
  have rb := grs_b T.1 T.2.1 1602 0 0 D (by omega) (by decide) (by omega) (by decide) (by decide) hD
  have q1 : a_ln E 106 = 26 := ln_106 E
  have q2 : a_ln E 107 = 26 := ln_107 E
  have eR : ∀ {h : AHi} {p f : Int}, Ef Slc h (RS h p f) := fun {h p f} => Ef_RS.mono fun a k q => Or.inl q
  simp +decide (maxSteps := 4000000) (disch := omega) only [k69_0, k69_2, k69_3, k69_r, k69_s, F_al1, F_al0, T_getR, T_I, J_cp, F_is2i, F_is2r, F_is2m, F_is3i, F_is3r, F_is3m, F_is4i, F_is4r, F_is4m, T_ft, F_il3, J_ifeq, F_il4, T_icge, F_inc2i, F_inc2r, F_inc2m, F_inc4i, F_inc4r, F_inc4m, T_goto, J_ifne, T_ret, F_il2, c13, c16, c20, c24, c70, ↓s16, ↓s20, ↓s24, FX F, ↓s13 F hn, kd_44, kd_105, kd_106, kd_107, ln_106, ln_107, true_or, ↓reduceIte, TK, lt_run hn, le43, Int.le_refl, Int.lt_irrefl, Option.some.injEq, exists_eq_left', true_and, and_true, if_true, if_false, decide_eq_false_iff_not, decide_eq_true_eq, Nat.reduceAdd, Nat.reduceLeDiff, Nat.reduceLT, Int.reduceAdd, Int.reduceSub, Int.reduceMul, Int.reduceNeg, not_true_eq_false, not_false_eq_true]
  have e0 : Ef Slc h (cpA (RS h 0 (-1)) 106 0 107 0 26) := cp_e eR (fun _ => Or.inr rfl)
  have T0 : TpC (cpA (RS h 0 (-1)) 106 0 107 0 26) t b := T.ef e0 (fun q => by unfold Slc at q; omega) (fun k q => by unfold Slc at q; omega)
  have R0 : Rk (cpA (RS h 0 (-1)) 106 0 107 0 26) 107 26 D := fun j j0 j1 => by
    rw [cp_g (by omega) (by omega) (by omega) j0, if_pos (by omega), RS_g (by decide), show 0 + (j - 0) = j by omega]
    exact R j j0 j1
  have ei : RS (cpA (RS h 0 (-1)) 106 0 107 0 26) 0 (-1) = cpA (RS h 0 (-1)) 106 0 107 0 26 := RS_id (by rw [cp_o (by decide)]; exact RS_2) (by rw [cp_o (by decide)]; exact RS_3)
  rw [← ei]
  refine z69 F hn 1602 0 0 D _ (by omega) (by decide) (by omega) (by decide) (by decide) hD T0 R0 (fun h1 w m' v3 v4 w0 w1 e1 gd => ?_)
  have e2 : Ef Slc h h1 := e0.trans (e1.mono fun a k q => Or.inr q)
  rw [k69_2]
  by_cases g : (grs b t 1602 0 0 D).1 = -1
  · obtain ⟨rfl, R1⟩ := gd g
    obtain ⟨u1, u2⟩ := rb.2 g
    have k3 := fun h' q => k2 h' q g
    rw [g]
    simp +decide (maxSteps := 4000000) (disch := omega) only [k69_0, k69_2, k69_3, k69_r, k69_s, F_al1, F_al0, T_getR, T_I, J_cp, F_is2i, F_is2r, F_is2m, F_is3i, F_is3r, F_is3m, F_is4i, F_is4r, F_is4m, T_ft, F_il3, J_ifeq, F_il4, T_icge, F_inc2i, F_inc2r, F_inc2m, F_inc4i, F_inc4r, F_inc4m, T_goto, J_ifne, T_ret, F_il2, c13, c16, c20, c24, c70, ↓s13, ↓s20, ↓s24, FX F, ↓s16 F hn, kd_44, kd_105, kd_106, kd_107, ln_106, ln_107, true_or, ↓reduceIte, TK, lt_run hn, le43, Int.le_refl, Int.lt_irrefl, Option.some.injEq, exists_eq_left', true_and, and_true, if_true, if_false, decide_eq_false_iff_not, decide_eq_true_eq, Nat.reduceAdd, Nat.reduceLeDiff, Nat.reduceLT, Int.reduceAdd, Int.reduceSub, Int.reduceMul, Int.reduceNeg, not_true_eq_false, not_false_eq_true]
    refine k3 _ (cp_e ((e2.trans eR).mono fun a k q => Or.inl q) (fun _ => Or.inr rfl)) (fun j j0 j1 => ?_)
    rw [cp_g (by omega) (by omega) (by omega) j0, if_pos (by omega), RS_g (by decide), show 0 + (j - 0) = j by omega]
    exact R1 j j0 j1
  · have fb := rb.1
    simp +decide (maxSteps := 4000000) (disch := omega) only [k69_0, k69_2, k69_3, k69_r, k69_s, F_al1, F_al0, T_getR, T_I, J_cp, F_is2i, F_is2r, F_is2m, F_is3i, F_is3r, F_is3m, F_is4i, F_is4r, F_is4m, T_ft, F_il3, J_ifeq, F_il4, T_icge, F_inc2i, F_inc2r, F_inc2m, F_inc4i, F_inc4r, F_inc4m, T_goto, J_ifne, T_ret, F_il2, c13, c16, c20, c24, c70, ↓s13, ↓s20, ↓s16 F hn, ↓s24 F hn, g, kd_44, ↓reduceIte, TK, lt_run hn, le43, Int.le_refl, Int.lt_irrefl, Option.some.injEq, exists_eq_left', true_and, and_true, if_true, if_false, decide_eq_false_iff_not, decide_eq_true_eq, Nat.reduceAdd, Nat.reduceLeDiff, Nat.reduceLT, Int.reduceAdd, Int.reduceSub, Int.reduceMul, Int.reduceNeg, not_true_eq_false, not_false_eq_true]
    exact k1 _ (e2.trans eR) g
theorem z299 (F : FH hr) (hn : 775 ≤ n) : ∀ (q : Nat) (p m : Int) (D : Int → Int) (h : AHi) (v3 v4 v5 : Value), t - p < q → 0 ≤ p → p ≤ t → 0 ≤ m → 2 * m ≤ p → R7 D → TpM h t b → Rk h 751 26 D →
    (∀ h' p' m' (v2 : Int32) (v3 v4 v5 : Value), 0 ≤ p' → p' ≤ 1700 → Ef (fun a _ => a = 751) h h' → ((grs b t q m p D).1 = -1 → m' = (grs b t q m p D).2.1 ∧ Rk h' 751 26 (grs b t q m p D).2.2) → Tm E 299 (a_bl 299 13) [.ref 704, .int (J m'), .int v2, v3, v4, v5] [] (MS h' p' (grs b t q m p D).1) hr n Q) →
    Tm E 299 (a_bl 299 3) [.ref 704, .int (J m), .int (J 1), v3, v4, v5] [] (MS h p (-1)) hr n Q := by
  intro q
  induction q with
  | zero => intro p m D h v3 v4 v5 q0 p0 p1; omega
  | succ q ih =>
    intro p m D h v3 v4 v5 q0 p0 p1 m0 m1 hD T R kk
    have t1 := T.1
    have t3 := T.2.2.1
    have K := grp_b T.1 T.2.1 (p := p) (by omega) hD
    have sb := sme_b (b := b) T.1 1601 p p0 (by omega)
    unfold grs at kk
    have after : ∀ h1 w (x y z : Int32), 0 ≤ w → w ≤ 1700 → Ef (fun a _ => a = 751) h h1 → ((grp b t p D).1 = -1 → w = (grp b t p D).2.1 ∧ Rk h1 751 26 (grp b t p D).2.2) → Tm E 299 (a_bl 299 9) [.ref 704, .int (J m), .int (J 1), .int x, .int y, .int z] [] (MS h1 w (grp b t p D).1) hr n Q := fun h1 w x y z w0 w1 e1 gd => by
      have T1 : TpM h1 t b := T.ef e1 (by decide) (fun k => by omega)
      have t4 := T1.2.2.1
      rw [k299_9]
      generalize grp b t p D = r at *
      by_cases g : r.1 = -1
      · obtain ⟨ep, R1⟩ := gd g
        obtain ⟨⟨u1, u2⟩, u5⟩ := K.2 g
        rw [if_pos g, ← ep] at kk
        rw [← ep] at u1 u2
        rw [g]
        by_cases g1 : t ≤ w
        · rw [if_pos g1] at kk
          have fin := kk h1 w (m + 1) (J 0) (.int x) (.int y) (.int z) w0 w1 e1 (fun _ => ⟨rfl, R1⟩)
          simp +decide (maxSteps := 4000000) (disch := omega) only [k299_0, k299_2, k299_5, k299_6, k299_8, k299_9, k299_10, k299_11, k299_12, k299_13, k299_14, k299_16, k299_r, k299_s, F_al0, T_I, F_is1i, F_is1r, F_is1m, T_ft, F_il1, T_icge, T_getR, X_iald, T_iast, F_inc1i, F_inc1r, F_inc1m, T_goto, F_is2i, F_is2r, F_is2m, J_ifeq, F_il2, T_getI, F_is3i, F_is3r, F_is3m, J_ifne, T_dupI, T_dupR, T_add, T_putI, T_putZ, F_is4i, F_is4r, F_is4m, F_il3, F_is5i, F_is5r, F_is5m, F_il5, F_il4, T_sub, F_inc5i, F_inc5r, F_inc5m, T_ret, F_inc3i, F_inc3r, F_inc3m, c217, c219, c221, c222, c224, c225, c226, c300, ↓s219, ↓s221, ↓s222, ↓s224, ↓s225, ↓s226, ↓s300, MX, t4, g1, ↓reduceIte, TK, lt_run hn, le43, Int.le_refl, Int.lt_irrefl, Option.some.injEq, exists_eq_left', true_and, and_true, if_true, if_false, decide_eq_false_iff_not, decide_eq_true_eq, Nat.reduceAdd, Nat.reduceLeDiff, Nat.reduceLT, Int.reduceAdd, Int.reduceSub, Int.reduceMul, Int.reduceNeg, not_true_eq_false, not_false_eq_true]
          rw [k299_3]
          simp +decide (maxSteps := 4000000) (disch := omega) only [k299_0, k299_2, k299_5, k299_6, k299_8, k299_9, k299_10, k299_11, k299_12, k299_14, k299_16, k299_r, k299_s, F_al0, T_I, F_is1i, F_is1r, F_is1m, T_ft, F_il1, T_icge, T_getR, X_iald, T_iast, F_inc1i, F_inc1r, F_inc1m, T_goto, F_is2i, F_is2r, F_is2m, J_ifeq, F_il2, T_getI, F_is3i, F_is3r, F_is3m, J_ifne, T_dupI, T_dupR, T_add, T_putI, T_putZ, F_is4i, F_is4r, F_is4m, F_il3, F_is5i, F_is5r, F_is5m, F_il5, F_il4, T_sub, F_inc5i, F_inc5r, F_inc5m, T_ret, F_inc3i, F_inc3r, F_inc3m, c217, c219, c221, c222, c224, c225, c226, c300, ↓s219, ↓s222, ↓s224, ↓s225, ↓s226, ↓s300, ↓s221 F hn, ↓reduceIte, TK, lt_run hn, le43, Int.le_refl, Int.lt_irrefl, Option.some.injEq, exists_eq_left', true_and, and_true, if_true, if_false, decide_eq_false_iff_not, decide_eq_true_eq, Nat.reduceAdd, Nat.reduceLeDiff, Nat.reduceLT, Int.reduceAdd, Int.reduceSub, Int.reduceMul, Int.reduceNeg, not_true_eq_false, not_false_eq_true]
          exact fin
        · rw [if_neg g1] at kk
          by_cases g2 : bt b t w = 32
          · rw [if_pos g2] at kk
            simp +decide (maxSteps := 4000000) (disch := omega) only [k299_0, k299_2, k299_5, k299_6, k299_8, k299_9, k299_10, k299_11, k299_12, k299_13, k299_14, k299_16, k299_r, k299_s, F_al0, T_I, F_is1i, F_is1r, F_is1m, T_ft, F_il1, T_icge, T_getR, X_iald, T_iast, F_inc1i, F_inc1r, F_inc1m, T_goto, F_is2i, F_is2r, F_is2m, J_ifeq, F_il2, T_getI, F_is3i, F_is3r, F_is3m, J_ifne, T_dupI, T_dupR, T_add, T_putI, T_putZ, F_is4i, F_is4r, F_is4m, F_il3, F_is5i, F_is5r, F_is5m, F_il5, F_il4, T_sub, F_inc5i, F_inc5r, F_inc5m, T_ret, F_inc3i, F_inc3r, F_inc3m, c217, c219, c221, c222, c224, c225, c226, c300, ↓s219, ↓s221, ↓s222, ↓s224, ↓s226, ↓s300, MX, t4, g1, ↓s225 F hn T1, g2, ↓reduceIte, TK, lt_run hn, le43, Int.le_refl, Int.lt_irrefl, Option.some.injEq, exists_eq_left', true_and, and_true, if_true, if_false, decide_eq_false_iff_not, decide_eq_true_eq, Nat.reduceAdd, Nat.reduceLeDiff, Nat.reduceLT, Int.reduceAdd, Int.reduceSub, Int.reduceMul, Int.reduceNeg, not_true_eq_false, not_false_eq_true]
            exact ih (w + 1) (m + 1) _ h1 _ _ _ (by omega) (by omega) (by omega) (by omega) (by omega) u5 T1 R1 (fun h' p' m' v2 v3 v4 v5 a1 a2 a3 => kk h' p' m' v2 v3 v4 v5 a1 a2 (e1.trans a3))
          · rw [if_neg g2] at kk
            have f1 : w ≠ -1 := by omega
            have fin := kk h1 w (m + 1) (J 1) (.int x) (.int y) (.int z) w0 w1 e1 (fun z => by dsimp only at z; omega)
            simp +decide (maxSteps := 4000000) (disch := omega) only [k299_0, k299_2, k299_5, k299_6, k299_8, k299_9, k299_10, k299_11, k299_12, k299_13, k299_14, k299_16, k299_r, k299_s, F_al0, T_I, F_is1i, F_is1r, F_is1m, T_ft, F_il1, T_icge, T_getR, X_iald, T_iast, F_inc1i, F_inc1r, F_inc1m, T_goto, F_is2i, F_is2r, F_is2m, J_ifeq, F_il2, T_getI, F_is3i, F_is3r, F_is3m, J_ifne, T_dupI, T_dupR, T_add, T_putI, T_putZ, F_is4i, F_is4r, F_is4m, F_il3, F_is5i, F_is5r, F_is5m, F_il5, F_il4, T_sub, F_inc5i, F_inc5r, F_inc5m, T_ret, F_inc3i, F_inc3r, F_inc3m, c217, c219, c221, c222, c224, c225, c226, c300, ↓s219, ↓s221, ↓s222, ↓s224, ↓s226, ↓s300, MX, t4, g1, ↓s225 F hn T1, g2, rf_y, ↓reduceIte, TK, lt_run hn, le43, Int.le_refl, Int.lt_irrefl, Option.some.injEq, exists_eq_left', true_and, and_true, if_true, if_false, decide_eq_false_iff_not, decide_eq_true_eq, Nat.reduceAdd, Nat.reduceLeDiff, Nat.reduceLT, Int.reduceAdd, Int.reduceSub, Int.reduceMul, Int.reduceNeg, not_true_eq_false, not_false_eq_true]
            rw [k299_3]
            simp +decide (maxSteps := 4000000) (disch := omega) only [k299_0, k299_2, k299_5, k299_6, k299_8, k299_9, k299_10, k299_11, k299_12, k299_14, k299_16, k299_r, k299_s, F_al0, T_I, F_is1i, F_is1r, F_is1m, T_ft, F_il1, T_icge, T_getR, X_iald, T_iast, F_inc1i, F_inc1r, F_inc1m, T_goto, F_is2i, F_is2r, F_is2m, J_ifeq, F_il2, T_getI, F_is3i, F_is3r, F_is3m, J_ifne, T_dupI, T_dupR, T_add, T_putI, T_putZ, F_is4i, F_is4r, F_is4m, F_il3, F_is5i, F_is5r, F_is5m, F_il5, F_il4, T_sub, F_inc5i, F_inc5r, F_inc5m, T_ret, F_inc3i, F_inc3r, F_inc3m, c217, c219, c221, c222, c224, c225, c226, c300, ↓s219, ↓s222, ↓s224, ↓s225, ↓s226, ↓s300, ↓s221 F hn, f1, ↓reduceIte, TK, lt_run hn, le43, Int.le_refl, Int.lt_irrefl, Option.some.injEq, exists_eq_left', true_and, and_true, if_true, if_false, decide_eq_false_iff_not, decide_eq_true_eq, Nat.reduceAdd, Nat.reduceLeDiff, Nat.reduceLT, Int.reduceAdd, Int.reduceSub, Int.reduceMul, Int.reduceNeg, not_true_eq_false, not_false_eq_true]
            exact fin
      · rw [if_neg g] at kk
        have fb := K.1
        by_cases g1 : t ≤ w
        · have fin := kk h1 w (m + 1) (J 0) (.int x) (.int y) (.int z) w0 w1 e1 (fun z => absurd z g)
          simp +decide (maxSteps := 4000000) (disch := omega) only [k299_0, k299_2, k299_5, k299_6, k299_8, k299_9, k299_10, k299_11, k299_12, k299_13, k299_14, k299_16, k299_r, k299_s, F_al0, T_I, F_is1i, F_is1r, F_is1m, T_ft, F_il1, T_icge, T_getR, X_iald, T_iast, F_inc1i, F_inc1r, F_inc1m, T_goto, F_is2i, F_is2r, F_is2m, J_ifeq, F_il2, T_getI, F_is3i, F_is3r, F_is3m, J_ifne, T_dupI, T_dupR, T_add, T_putI, T_putZ, F_is4i, F_is4r, F_is4m, F_il3, F_is5i, F_is5r, F_is5m, F_il5, F_il4, T_sub, F_inc5i, F_inc5r, F_inc5m, T_ret, F_inc3i, F_inc3r, F_inc3m, c217, c219, c221, c222, c224, c225, c226, c300, ↓s219, ↓s221, ↓s222, ↓s224, ↓s225, ↓s226, ↓s300, MX, t4, g1, ↓reduceIte, TK, lt_run hn, le43, Int.le_refl, Int.lt_irrefl, Option.some.injEq, exists_eq_left', true_and, and_true, if_true, if_false, decide_eq_false_iff_not, decide_eq_true_eq, Nat.reduceAdd, Nat.reduceLeDiff, Nat.reduceLT, Int.reduceAdd, Int.reduceSub, Int.reduceMul, Int.reduceNeg, not_true_eq_false, not_false_eq_true]
          rw [k299_3]
          simp +decide (maxSteps := 4000000) (disch := omega) only [k299_0, k299_2, k299_5, k299_6, k299_8, k299_9, k299_10, k299_11, k299_12, k299_14, k299_16, k299_r, k299_s, F_al0, T_I, F_is1i, F_is1r, F_is1m, T_ft, F_il1, T_icge, T_getR, X_iald, T_iast, F_inc1i, F_inc1r, F_inc1m, T_goto, F_is2i, F_is2r, F_is2m, J_ifeq, F_il2, T_getI, F_is3i, F_is3r, F_is3m, J_ifne, T_dupI, T_dupR, T_add, T_putI, T_putZ, F_is4i, F_is4r, F_is4m, F_il3, F_is5i, F_is5r, F_is5m, F_il5, F_il4, T_sub, F_inc5i, F_inc5r, F_inc5m, T_ret, F_inc3i, F_inc3r, F_inc3m, c217, c219, c221, c222, c224, c225, c226, c300, ↓s219, ↓s222, ↓s224, ↓s225, ↓s226, ↓s300, ↓s221 F hn, g, ↓reduceIte, TK, lt_run hn, le43, Int.le_refl, Int.lt_irrefl, Option.some.injEq, exists_eq_left', true_and, and_true, if_true, if_false, decide_eq_false_iff_not, decide_eq_true_eq, Nat.reduceAdd, Nat.reduceLeDiff, Nat.reduceLT, Int.reduceAdd, Int.reduceSub, Int.reduceMul, Int.reduceNeg, not_true_eq_false, not_false_eq_true]
          exact fin
        · have fin := kk h1 w (m + 1) (J 1) (.int x) (.int y) (.int z) w0 w1 e1 (fun z => absurd z g)
          simp +decide (maxSteps := 4000000) (disch := omega) only [k299_0, k299_2, k299_5, k299_6, k299_8, k299_9, k299_10, k299_11, k299_12, k299_13, k299_14, k299_16, k299_r, k299_s, F_al0, T_I, F_is1i, F_is1r, F_is1m, T_ft, F_il1, T_icge, T_getR, X_iald, T_iast, F_inc1i, F_inc1r, F_inc1m, T_goto, F_is2i, F_is2r, F_is2m, J_ifeq, F_il2, T_getI, F_is3i, F_is3r, F_is3m, J_ifne, T_dupI, T_dupR, T_add, T_putI, T_putZ, F_is4i, F_is4r, F_is4m, F_il3, F_is5i, F_is5r, F_is5m, F_il5, F_il4, T_sub, F_inc5i, F_inc5r, F_inc5m, T_ret, F_inc3i, F_inc3r, F_inc3m, c217, c219, c221, c222, c224, c225, c226, c300, ↓s219, ↓s221, ↓s222, ↓s224, ↓s226, ↓s300, MX, t4, g1, ↓s225 F hn T1, g, false_and, rf_n g, ↓reduceIte, TK, lt_run hn, le43, Int.le_refl, Int.lt_irrefl, Option.some.injEq, exists_eq_left', true_and, and_true, if_true, if_false, decide_eq_false_iff_not, decide_eq_true_eq, Nat.reduceAdd, Nat.reduceLeDiff, Nat.reduceLT, Int.reduceAdd, Int.reduceSub, Int.reduceMul, Int.reduceNeg, not_true_eq_false, not_false_eq_true]
          rw [k299_3]
          simp +decide (maxSteps := 4000000) (disch := omega) only [k299_0, k299_2, k299_5, k299_6, k299_8, k299_9, k299_10, k299_11, k299_12, k299_14, k299_16, k299_r, k299_s, F_al0, T_I, F_is1i, F_is1r, F_is1m, T_ft, F_il1, T_icge, T_getR, X_iald, T_iast, F_inc1i, F_inc1r, F_inc1m, T_goto, F_is2i, F_is2r, F_is2m, J_ifeq, F_il2, T_getI, F_is3i, F_is3r, F_is3m, J_ifne, T_dupI, T_dupR, T_add, T_putI, T_putZ, F_is4i, F_is4r, F_is4m, F_il3, F_is5i, F_is5r, F_is5m, F_il5, F_il4, T_sub, F_inc5i, F_inc5r, F_inc5m, T_ret, F_inc3i, F_inc3r, F_inc3m, c217, c219, c221, c222, c224, c225, c226, c300, ↓s219, ↓s222, ↓s224, ↓s225, ↓s226, ↓s300, ↓s221 F hn, g, ↓reduceIte, TK, lt_run hn, le43, Int.le_refl, Int.lt_irrefl, Option.some.injEq, exists_eq_left', true_and, and_true, if_true, if_false, decide_eq_false_iff_not, decide_eq_true_eq, Nat.reduceAdd, Nat.reduceLeDiff, Nat.reduceLT, Int.reduceAdd, Int.reduceSub, Int.reduceMul, Int.reduceNeg, not_true_eq_false, not_false_eq_true]
          exact fin
    have lpf : ∀ (w f : Int) (x y z : Int32), 0 ≤ f → f ≤ 1700 → Tm E 299 (a_bl 299 9) [.ref 704, .int (J m), .int (J 1), .int x, .int y, .int z] [] (MS h w f) hr n Q → Tm E 299 (a_bl 299 7) [.ref 704, .int (J m), .int (J 1), .int x, .int y, .int z] [] (MS h w f) hr n Q := fun w f x y z f0 f1 q => by
      have f2 : f ≠ -1 := by omega
      rw [k299_7]
      simp +decide (maxSteps := 4000000) (disch := omega) only [k299_0, k299_2, k299_5, k299_6, k299_8, k299_10, k299_11, k299_12, k299_13, k299_14, k299_16, k299_r, k299_s, F_al0, T_I, F_is1i, F_is1r, F_is1m, T_ft, F_il1, T_icge, T_getR, X_iald, T_iast, F_inc1i, F_inc1r, F_inc1m, T_goto, F_is2i, F_is2r, F_is2m, J_ifeq, F_il2, T_getI, F_is3i, F_is3r, F_is3m, J_ifne, T_dupI, T_dupR, T_add, T_putI, T_putZ, F_is4i, F_is4r, F_is4m, F_il3, F_is5i, F_is5r, F_is5m, F_il5, F_il4, T_sub, F_inc5i, F_inc5r, F_inc5m, T_ret, F_inc3i, F_inc3r, F_inc3m, c217, c219, c221, c222, c224, c225, c226, c300, ↓s219, ↓s222, ↓s224, ↓s225, ↓s226, ↓s300, ↓s221 F hn, f2, ↓reduceIte, TK, lt_run hn, le43, Int.le_refl, Int.lt_irrefl, Option.some.injEq, exists_eq_left', true_and, and_true, if_true, if_false, decide_eq_false_iff_not, decide_eq_true_eq, Nat.reduceAdd, Nat.reduceLeDiff, Nat.reduceLT, Int.reduceAdd, Int.reduceSub, Int.reduceMul, Int.reduceNeg, not_true_eq_false, not_false_eq_true]
      first | exact q | (split <;> exact q)
    have bp := bt_r (t := t) T.2.1 p
    by_cases gs : smb (bt b t p)
    case neg =>
      have es : sme b t 1601 p = p := sme_u gs 1601 p (by omega) (by omega) (fun j j0 j1 => by omega)
      have f1 : p ≠ -1 := by omega
      have eg : grp b t p D = (p, 0, D) := by
        unfold grp
        rw [es, if_pos rfl]
      have fin := after h p (J p) (J p) (J p) p0 (by omega) Ef.refl (fun z => by rw [eg] at z; exact absurd z f1)
      rw [eg] at fin
      have gs' : ¬ (97 ≤ bt b t p ∧ bt b t p ≤ 122) := gs
      rw [k299_3]
      simp +decide (maxSteps := 4000000) (disch := omega) only [k299_0, k299_2, k299_5, k299_6, k299_8, k299_9, k299_10, k299_11, k299_12, k299_13, k299_14, k299_16, k299_r, k299_s, F_al0, T_I, F_is1i, F_is1r, F_is1m, T_ft, F_il1, T_icge, T_getR, X_iald, T_iast, F_inc1i, F_inc1r, F_inc1m, T_goto, F_is2i, F_is2r, F_is2m, J_ifeq, F_il2, T_getI, F_is3i, F_is3r, F_is3m, J_ifne, T_dupI, T_dupR, T_add, T_putI, T_putZ, F_is4i, F_is4r, F_is4m, F_il3, F_is5i, F_is5r, F_is5m, F_il5, F_il4, T_sub, F_inc5i, F_inc5r, F_inc5m, T_ret, F_inc3i, F_inc3r, F_inc3m, c217, c219, c221, c222, c224, c225, c226, c300, ↓s219, ↓s225, ↓s226, ↓s300, MX, ↓s221 F hn, ↓s222 F hn T, ↓s224 F hn, gs', rf_y, ↓reduceIte, TK, lt_run hn, le43, Int.le_refl, Int.lt_irrefl, Option.some.injEq, exists_eq_left', true_and, and_true, if_true, if_false, decide_eq_false_iff_not, decide_eq_true_eq, Nat.reduceAdd, Nat.reduceLeDiff, Nat.reduceLT, Int.reduceAdd, Int.reduceSub, Int.reduceMul, Int.reduceNeg, not_true_eq_false, not_false_eq_true]
      rw [k299_4]
      simp +decide (maxSteps := 4000000) (disch := omega) only [k299_0, k299_2, k299_5, k299_6, k299_8, k299_9, k299_10, k299_11, k299_12, k299_13, k299_14, k299_16, k299_r, k299_s, F_al0, T_I, F_is1i, F_is1r, F_is1m, T_ft, F_il1, T_icge, T_getR, X_iald, T_iast, F_inc1i, F_inc1r, F_inc1m, T_goto, F_is2i, F_is2r, F_is2m, J_ifeq, F_il2, T_getI, F_is3i, F_is3r, F_is3m, J_ifne, T_dupI, T_dupR, T_add, T_putI, T_putZ, F_is4i, F_is4r, F_is4m, F_il3, F_is5i, F_is5r, F_is5m, F_il5, F_il4, T_sub, F_inc5i, F_inc5r, F_inc5m, T_ret, F_inc3i, F_inc3r, F_inc3m, c217, c219, c221, c222, c224, c225, c226, c300, ↓s219, ↓s224, ↓s226, ↓s300, MX, ↓s221 F hn, ↓s222 F hn T, ↓s225 F hn T, gs', f1, false_and, rf_n f1, ↓reduceIte, TK, lt_run hn, le43, Int.le_refl, Int.lt_irrefl, Option.some.injEq, exists_eq_left', true_and, and_true, if_true, if_false, decide_eq_false_iff_not, decide_eq_true_eq, Nat.reduceAdd, Nat.reduceLeDiff, Nat.reduceLT, Int.reduceAdd, Int.reduceSub, Int.reduceMul, Int.reduceNeg, not_true_eq_false, not_false_eq_true]
      exact lpf _ _ _ _ _ (by omega) (by omega) fin
    have gs' : 97 ≤ bt b t p ∧ bt b t p ≤ 122 := gs
    rw [k299_3]
    simp +decide (maxSteps := 4000000) (disch := omega) only [k299_0, k299_2, k299_5, k299_6, k299_8, k299_9, k299_10, k299_11, k299_12, k299_13, k299_14, k299_16, k299_r, k299_s, F_al0, T_I, F_is1i, F_is1r, F_is1m, T_ft, F_il1, T_icge, T_getR, X_iald, T_iast, F_inc1i, F_inc1r, F_inc1m, T_goto, F_is2i, F_is2r, F_is2m, J_ifeq, F_il2, T_getI, F_is3i, F_is3r, F_is3m, J_ifne, T_dupI, T_dupR, T_add, T_putI, T_putZ, F_is4i, F_is4r, F_is4m, F_il3, F_is5i, F_is5r, F_is5m, F_il5, F_il4, T_sub, F_inc5i, F_inc5r, F_inc5m, T_ret, F_inc3i, F_inc3r, F_inc3m, c217, c219, c221, c222, c224, c225, c226, c300, ↓s219, ↓s224, ↓s225, ↓s226, ↓s300, MX, ↓s221 F hn, ↓s222 F hn T, gs', ↓reduceIte, TK, lt_run hn, le43, Int.le_refl, Int.lt_irrefl, Option.some.injEq, exists_eq_left', true_and, and_true, if_true, if_false, decide_eq_false_iff_not, decide_eq_true_eq, Nat.reduceAdd, Nat.reduceLeDiff, Nat.reduceLT, Int.reduceAdd, Int.reduceSub, Int.reduceMul, Int.reduceNeg, not_true_eq_false, not_false_eq_true]
    refine T_wh (σ := Int) (fun k => [.ref 704, .int (J m), .int (J 1), .int (J p), v4, v5]) (fun k h' => h' = MS h (p + k) (-1) ∧ (0 ≤ k ∧ k ≤ 1600) ∧ ∀ j, p ≤ j → j < p + k → smb (bt b t j)) (fun k _ => (1601 - k).toNat) ?_ 0 _ ⟨by rw [Int.add_zero], by omega, fun j j0 j1 => by omega⟩
    rintro k _ ⟨rfl, ⟨k0, k1⟩, k2⟩ ih2
    have bk := bt_r (t := t) T.2.1 (p + k)
    by_cases g : smb (bt b t (p + k))
    · have hin := smb_in g
      have g' : 97 ≤ bt b t (p + k) ∧ bt b t (p + k) ≤ 122 := g
      have fin := ih2 (k + 1) (MS h (p + (k + 1)) (-1)) ⟨rfl, by omega, fun j j0 j1 => by
        rcases (show j < p + k ∨ j = p + k by omega) with z | z
        · exact k2 j j0 z
        · rw [z]
          exact g⟩ (by omega)
      rw [← Int.add_assoc] at fin
      rw [k299_4]
      simp +decide (maxSteps := 4000000) (disch := omega) only [k299_0, k299_2, k299_5, k299_6, k299_8, k299_9, k299_10, k299_11, k299_12, k299_13, k299_14, k299_16, k299_r, k299_s, F_al0, T_I, F_is1i, F_is1r, F_is1m, T_ft, F_il1, T_icge, T_getR, X_iald, T_iast, F_inc1i, F_inc1r, F_inc1m, T_goto, F_is2i, F_is2r, F_is2m, J_ifeq, F_il2, T_getI, F_is3i, F_is3r, F_is3m, J_ifne, T_dupI, T_dupR, T_add, T_putI, T_putZ, F_is4i, F_is4r, F_is4m, F_il3, F_is5i, F_is5r, F_is5m, F_il5, F_il4, T_sub, F_inc5i, F_inc5r, F_inc5m, T_ret, F_inc3i, F_inc3r, F_inc3m, c217, c219, c221, c222, c224, c225, c226, c300, ↓s219, ↓s221, ↓s224, ↓s225, ↓s226, ↓s300, MX, ↓s222 F hn T, g', ↓reduceIte, TK, lt_run hn, le43, Int.le_refl, Int.lt_irrefl, Option.some.injEq, exists_eq_left', true_and, and_true, if_true, if_false, decide_eq_false_iff_not, decide_eq_true_eq, Nat.reduceAdd, Nat.reduceLeDiff, Nat.reduceLT, Int.reduceAdd, Int.reduceSub, Int.reduceMul, Int.reduceNeg, not_true_eq_false, not_false_eq_true]
      exact fin
    have es : sme b t 1601 p = p + k := sme_u g 1601 p (by omega) (by omega) k2
    have g' : ¬ (97 ≤ bt b t (p + k) ∧ bt b t (p + k) ≤ 122) := g
    have g0 : ¬ p + k = p := fun z => g (by rw [z]; exact gs)
    have hk : p + k ≤ t := by
      have := smb_in (k2 (p + k - 1) (by omega) (by omega))
      omega
    unfold grp at after
    rw [es, if_neg g0] at after
    by_cases g1 : bt b t (p + k) = 61
    case neg =>
      rw [if_neg g1] at after
      have f1 : p + k ≠ -1 := by omega
      have fin := after h (p + k) (J p) (J (p + k)) (J p) (by omega) (by omega) Ef.refl (fun z => absurd z f1)
      rw [k299_4]
      simp +decide (maxSteps := 4000000) (disch := omega) only [k299_0, k299_2, k299_5, k299_6, k299_8, k299_9, k299_10, k299_11, k299_12, k299_13, k299_14, k299_16, k299_r, k299_s, F_al0, T_I, F_is1i, F_is1r, F_is1m, T_ft, F_il1, T_icge, T_getR, X_iald, T_iast, F_inc1i, F_inc1r, F_inc1m, T_goto, F_is2i, F_is2r, F_is2m, J_ifeq, F_il2, T_getI, F_is3i, F_is3r, F_is3m, J_ifne, T_dupI, T_dupR, T_add, T_putI, T_putZ, F_is4i, F_is4r, F_is4m, F_il3, F_is5i, F_is5r, F_is5m, F_il5, F_il4, T_sub, F_inc5i, F_inc5r, F_inc5m, T_ret, F_inc3i, F_inc3r, F_inc3m, c217, c219, c221, c222, c224, c225, c226, c300, ↓s219, ↓s224, ↓s226, ↓s300, MX, ↓s221 F hn, ↓s222 F hn T, ↓s225 F hn T, g', g1, f1, rf_y, ↓reduceIte, TK, lt_run hn, le43, Int.le_refl, Int.lt_irrefl, Option.some.injEq, exists_eq_left', true_and, and_true, if_true, if_false, decide_eq_false_iff_not, decide_eq_true_eq, Nat.reduceAdd, Nat.reduceLeDiff, Nat.reduceLT, Int.reduceAdd, Int.reduceSub, Int.reduceMul, Int.reduceNeg, not_true_eq_false, not_false_eq_true]
      exact lpf _ _ _ _ _ (by omega) (by omega) fin
    rw [if_pos g1] at after
    have hin := bt_in (b := b) (t := t) (i := p + k) (by omega)
    have bk2 := bt_r (t := t) T.2.1 (p + k + 1)
    by_cases g2 : 48 ≤ bt b t (p + k + 1) ∧ bt b t (p + k + 1) ≤ 55
    case neg =>
      rw [if_neg g2] at after
      have f1 : p + k + 1 ≠ -1 := by omega
      have fin := after h (p + k + 1) (J p) (J (p + k)) (J p) (by omega) (by omega) Ef.refl (fun z => absurd z f1)
      rw [k299_4]
      simp +decide (maxSteps := 4000000) (disch := omega) only [k299_0, k299_2, k299_5, k299_6, k299_8, k299_9, k299_10, k299_11, k299_12, k299_13, k299_14, k299_16, k299_r, k299_s, F_al0, T_I, F_is1i, F_is1r, F_is1m, T_ft, F_il1, T_icge, T_getR, X_iald, T_iast, F_inc1i, F_inc1r, F_inc1m, T_goto, F_is2i, F_is2r, F_is2m, J_ifeq, F_il2, T_getI, F_is3i, F_is3r, F_is3m, J_ifne, T_dupI, T_dupR, T_add, T_putI, T_putZ, F_is4i, F_is4r, F_is4m, F_il3, F_is5i, F_is5r, F_is5m, F_il5, F_il4, T_sub, F_inc5i, F_inc5r, F_inc5m, T_ret, F_inc3i, F_inc3r, F_inc3m, c217, c219, c221, c222, c224, c225, c226, c300, ↓s219, ↓s226, ↓s300, MX, ↓s221 F hn, ↓s222 F hn T, ↓s224 F hn, ↓s225 F hn T, g', g1, g2, rf_y, ↓reduceIte, TK, lt_run hn, le43, Int.le_refl, Int.lt_irrefl, Option.some.injEq, exists_eq_left', true_and, and_true, if_true, if_false, decide_eq_false_iff_not, decide_eq_true_eq, Nat.reduceAdd, Nat.reduceLeDiff, Nat.reduceLT, Int.reduceAdd, Int.reduceSub, Int.reduceMul, Int.reduceNeg, not_true_eq_false, not_false_eq_true]
      exact lpf _ _ _ _ _ (by omega) (by omega) fin
    rw [if_pos g2] at after
    have hin2 := bt_in (b := b) (t := t) (i := p + k + 1) (by omega)
    rw [k299_4]
    simp +decide (maxSteps := 4000000) (disch := omega) only [k299_0, k299_2, k299_5, k299_6, k299_8, k299_9, k299_10, k299_11, k299_12, k299_13, k299_14, k299_16, k299_r, k299_s, F_al0, T_I, F_is1i, F_is1r, F_is1m, T_ft, F_il1, T_icge, T_getR, X_iald, T_iast, F_inc1i, F_inc1r, F_inc1m, T_goto, F_is2i, F_is2r, F_is2m, J_ifeq, F_il2, T_getI, F_is3i, F_is3r, F_is3m, J_ifne, T_dupI, T_dupR, T_add, T_putI, T_putZ, F_is4i, F_is4r, F_is4m, F_il3, F_is5i, F_is5r, F_is5m, F_il5, F_il4, T_sub, F_inc5i, F_inc5r, F_inc5m, T_ret, F_inc3i, F_inc3r, F_inc3m, c217, c219, c221, c222, c224, c225, c226, c300, ↓s219, ↓s226, ↓s300, MX, ↓s221 F hn, ↓s222 F hn T, ↓s224 F hn, ↓s225 F hn T, g', g1, g2, rf_y, ↓reduceIte, TK, lt_run hn, le43, Int.le_refl, Int.lt_irrefl, Option.some.injEq, exists_eq_left', true_and, and_true, if_true, if_false, decide_eq_false_iff_not, decide_eq_true_eq, Nat.reduceAdd, Nat.reduceLeDiff, Nat.reduceLT, Int.reduceAdd, Int.reduceSub, Int.reduceMul, Int.reduceNeg, not_true_eq_false, not_false_eq_true]
    refine T_for (σ := Unit) (fun i _ => [.ref 704, .int (J m), .int (J 1), .int (J p), .int (J (p + k)), .int (J i)]) (fun i _ h' => ∃ h2, h' = MS h2 (p + k + 1) (-1) ∧ Ef (fun a _ => a = 751) h h2 ∧ Rk h2 751 26 (wr b (bt b t (p + k + 1) - 48) p (i - p).toNat D)) p (p + k) ?_ ?_ p () _ (by omega) (by omega) ⟨h, rfl, Ef.refl, by rw [show (p - p).toNat = 0 by omega]; exact R⟩
    · rintro i _ _ i0 i1 ⟨h2, rfl, e2, R2⟩ ih3
      have T2 : TpM h2 t b := T.ef e2 (by decide) (fun k => by omega)
      obtain ⟨y1, y2, y3⟩ := smb_in (k2 i i0 i1)
      have d1 := T2.2.2.2 i (by omega) (by omega)
      rw [k299_7]
      simp +decide (maxSteps := 4000000) (disch := omega) only [k299_0, k299_2, k299_5, k299_6, k299_8, k299_9, k299_10, k299_11, k299_12, k299_13, k299_14, k299_16, k299_r, k299_s, F_al0, T_I, F_is1i, F_is1r, F_is1m, T_ft, F_il1, T_icge, T_getR, X_iald, T_iast, F_inc1i, F_inc1r, F_inc1m, T_goto, F_is2i, F_is2r, F_is2m, J_ifeq, F_il2, T_getI, F_is3i, F_is3r, F_is3m, J_ifne, T_dupI, T_dupR, T_add, T_putI, T_putZ, F_is4i, F_is4r, F_is4m, F_il3, F_is5i, F_is5r, F_is5m, F_il5, F_il4, T_sub, F_inc5i, F_inc5r, F_inc5m, T_ret, F_inc3i, F_inc3r, F_inc3m, c217, c219, c221, c222, c224, c225, c226, c300, ↓s219, ↓s224, ↓s225, ↓s226, ↓s300, FM F, MX, ↓s221 F hn, ↓s222 F hn T2, d1, ln_706, ln_751, show ¬ p + k ≤ i by omega, ↓reduceIte, TK, lt_run hn, le43, Int.le_refl, Int.lt_irrefl, Option.some.injEq, exists_eq_left', true_and, and_true, if_true, if_false, decide_eq_false_iff_not, decide_eq_true_eq, Nat.reduceAdd, Nat.reduceLeDiff, Nat.reduceLT, Int.reduceAdd, Int.reduceSub, Int.reduceMul, Int.reduceNeg, not_true_eq_false, not_false_eq_true]
      rw [MS_d (by decide)]
      refine ih3 () _ ⟨_, rfl, e2.sA rfl, ?_⟩
      have R3 := Rk_w (v := bt b t (p + k + 1) - 48) (c := b i - 97) R2 (by omega)
      rw [show (i + 1 - p).toNat = (i - p).toNat + 1 by omega]
      unfold wr
      rw [show p + ((i - p).toNat : Int) = i by omega]
      exact R3
    · rintro _ _ ⟨h2, rfl, e2, R2⟩
      have fin := after h2 (p + k + 2) (J p) (J (p + k)) (J (p + k)) (by omega) (by omega) e2 (fun _ => ⟨rfl, R2⟩)
      rw [show p + k + 2 = p + k + 1 + 1 by omega] at fin
      rw [k299_7]
      simp +decide (maxSteps := 4000000) (disch := omega) only [k299_0, k299_2, k299_5, k299_6, k299_8, k299_10, k299_11, k299_12, k299_13, k299_14, k299_16, k299_r, k299_s, F_al0, T_I, F_is1i, F_is1r, F_is1m, T_ft, F_il1, T_icge, T_getR, X_iald, T_iast, F_inc1i, F_inc1r, F_inc1m, T_goto, F_is2i, F_is2r, F_is2m, J_ifeq, F_il2, T_getI, F_is3i, F_is3r, F_is3m, J_ifne, T_dupI, T_dupR, T_add, T_putI, T_putZ, F_is4i, F_is4r, F_is4m, F_il3, F_is5i, F_is5r, F_is5m, F_il5, F_il4, T_sub, F_inc5i, F_inc5r, F_inc5m, T_ret, F_inc3i, F_inc3r, F_inc3m, c217, c219, c221, c222, c224, c225, c226, c300, ↓s219, ↓s222, ↓s224, ↓s225, ↓s226, ↓s300, MX, ↓s221 F hn, ↓reduceIte, TK, lt_run hn, le43, Int.le_refl, Int.lt_irrefl, Option.some.injEq, exists_eq_left', true_and, and_true, if_true, if_false, decide_eq_false_iff_not, decide_eq_true_eq, Nat.reduceAdd, Nat.reduceLeDiff, Nat.reduceLT, Int.reduceAdd, Int.reduceSub, Int.reduceMul, Int.reduceNeg, not_true_eq_false, not_false_eq_true]
      exact fin
end LH
