/-! match: the class's best match -/
def mack (D D' : Drw) (i j : Int) : Int := if j = 8 then 400 else csq (D.2 i) (D'.2 j)
def Sma (x k : Nat) : Prop := x = 94 ∨ x = 95 ∨ x = 96 ∨ (x = 91 ∧ (k = 8 ∨ k = 9))
section MD
variable {E : AEn} {h h' : AHi} {hr : AHr} {n : Nat} {Q : ARs → Prop} {D D' : Drw} {m : Int} {f g : Int → Int}
theorem mack_H (R : DRr D) (R' : DRr D') (h1 : 0 ≤ m ∧ m ≤ 4) (h2 : ∀ i, 0 ≤ f i ∧ f i ≤ 7) (h3 : ∀ i, 0 ≤ g i ∧ g i ≤ 7) (h4 : ∀ i j, 0 ≤ i → i < j → j < m → f i ≠ f j ∧ g i ≠ g j) : maH (mack D D') D.1 D'.1 m f g := by
  refine ⟨R.1, R'.1, h1, fun i j => ?_, h2, h3, h4⟩
  unfold mack
  split
  · omega
  · exact csq_r (R.2 i) (R'.2 j)
theorem maH.v {c : Int → Int → Int} {a b : Int} (H : maH c a b m f g) : maVr (maCC c a b m f g) a b := ⟨H.1, H.2.1, maV_C H, maT_r H⟩
theorem w81 (F : FH hr) (hn : 775 ≤ n) {p q : Nat} {ρ ρ' : Nat → Nat} (Bp : DB p) (Bq : DB q) (p0 : 159 ≤ p) (q0 : 159 ≤ q) (P : PS hr p ρ) (P' : PS hr q ρ') (C : DC h p ρ D) (C' : DC h q ρ' D') (R : DRr D) (R' : DRr D') (H : maH (mack D D') D.1 D'.1 m f g) (b1 : h 91 2 = J m) (b2 : ∀ i, 0 ≤ i → i < m → gA h 92 i = J (f i) ∧ gA h 93 i = J (g i))
    (k : ∀ h', Ef Sma h h' → h' 91 8 = J D.1 → (∀ i, 0 ≤ i → i < D.1 → gA h' 96 i = J (maZ (mack D D') D.1 D'.1 m f g i)) → Q (some (.int (J (maT (maCC (mack D D') D.1 D'.1 m f g) D.1 D'.1 D.1.toNat 0))), h', hr, n)) : Sp E 81 [.ref 91, .ref p, .ref q] h hr n Q := by
  have x1 := Bp.x E F
  have x2 := Bp.r
  have y1 := Bq.x E F
  have y2 := Bq.r
  have r1 := R.1
  have r2 := R'.1
  have d1 := C.1
  have d2 := C'.1
  have d2' : hI h 91 8 (J D.1) q 1 = J D'.1 := by rw [hI_o (by omega)]; exact d2
  have nS : ∀ x k, 159 ≤ x → ¬ Sma x k := fun x k q z => by unfold Sma at z; omega
  have hV := H.v
  have hm := H.2.2.1
  simp +decide (maxSteps := 4000000) (disch := omega) only [k81_0, k81_3, k81_4, k81_6, k81_7, k81_r, k81_s, F_al0, F_al1, T_getI, T_putI, T_putZ, F_al2, T_I, F_is3i, F_is3r, F_is3m, T_ft, F_il3, T_icge, F_is4i, F_is4r, F_is4m, F_il4, T_getR, X_aald, T_iast, F_inc4i, F_inc4r, F_inc4m, T_goto, F_inc3i, F_inc3r, F_inc3m, X_iald, T_ret, c82, c83, c84, c86, c127, ↓s82, ↓s127, FX F, x1, y1, d1, d2, d2', ↓reduceIte, TK, lt_run hn, le43, Int.le_refl, Int.lt_irrefl, Option.some.injEq, exists_eq_left', true_and, and_true, if_true, if_false, decide_eq_false_iff_not, decide_eq_true_eq, Nat.reduceAdd, Nat.reduceLeDiff, Nat.reduceLT, Int.reduceAdd, Int.reduceSub, Int.reduceMul, Int.reduceNeg, not_true_eq_false, not_false_eq_true]
  have keep : ∀ h' : AHi, h' = hI (hI h 91 8 (J D.1)) 91 9 (J D'.1) → Ef Sma h h' ∧ h' 91 8 = J D.1 ∧ h' 91 9 = J D'.1 := fun h' e => by
    subst e
    exact ⟨Ef.hI (Ef.hI Ef.refl (Or.inr (Or.inr (Or.inr ⟨rfl, Or.inl rfl⟩)))) (Or.inr (Or.inr (Or.inr ⟨rfl, Or.inr rfl⟩))), by rw [hI_k (by decide), hI_s], hI_s⟩
  obtain ⟨k1, k2, k3⟩ := keep _ rfl
  generalize hI (hI h 91 8 (J D.1)) 91 9 (J D'.1) = h1 at *
  refine T_for (σ := Value) (fun i v => [.ref 91, .ref p, .ref q, .int (J i), v]) (fun i _ h' => Ef Sma h h' ∧ h' 91 8 = J D.1 ∧ h' 91 9 = J D'.1 ∧ maCs D'.1 (mack D D') i h') 0 D.1 ?_ ?_ 0 a_mk h1 (by omega) (by omega) ⟨k1, k2, k3, fun i j _ _ _ => by omega⟩
  · rintro i v h' i0 i1 ⟨e1, e2, e3, e4⟩ ih
    rw [k81_1]
    simp +decide (maxSteps := 4000000) (disch := omega) only [k81_0, k81_3, k81_4, k81_6, k81_7, k81_r, k81_s, F_al0, F_al1, T_getI, T_putI, T_putZ, F_al2, T_I, F_is3i, F_is3r, F_is3m, T_ft, F_il3, T_icge, F_is4i, F_is4r, F_is4m, F_il4, T_getR, X_aald, T_iast, F_inc4i, F_inc4r, F_inc4m, T_goto, F_inc3i, F_inc3r, F_inc3m, X_iald, T_ret, c82, c83, c84, c86, c127, ↓s82, ↓s127, FX F, e2, show ¬ D.1 ≤ i by omega, ↓reduceIte, TK, lt_run hn, le43, Int.le_refl, Int.lt_irrefl, Option.some.injEq, exists_eq_left', true_and, and_true, if_true, if_false, decide_eq_false_iff_not, decide_eq_true_eq, Nat.reduceAdd, Nat.reduceLeDiff, Nat.reduceLT, Int.reduceAdd, Int.reduceSub, Int.reduceMul, Int.reduceNeg, not_true_eq_false, not_false_eq_true]
    refine T_for (σ := Unit) (fun j _ => [.ref 91, .ref p, .ref q, .int (J i), .int (J j)]) (fun j _ h' => Ef Sma h h' ∧ h' 91 8 = J D.1 ∧ h' 91 9 = J D'.1 ∧ maCs D'.1 (mack D D') i h' ∧ ∀ j', 0 ≤ j' → j' < j → gA h' 94 (i * 9 + j') = J (mack D D' i j')) 0 D'.1 ?_ ?_ 0 () h' (by omega) (by omega) ⟨e1, e2, e3, e4, fun j _ _ => by omega⟩
    · rintro j _ h' j0 j1 ⟨e1, e2, e3, e4, e5⟩ ih
      have a1 := (P.1 i.toNat (by omega)).1
      have a2 := (P'.1 j.toNat (by omega)).1
      have A := P.sb Bp (s := i.toNat) (by omega)
      have A' := P'.sb Bq (s := j.toNat) (by omega)
      have z1 := A.x E F
      have z2 := A.r
      have z3 := A'.x E F
      have z4 := A'.r
      have s1 := P.r (s := i.toNat) (by omega)
      have s2 := P'.r (s := j.toNat) (by omega)
      have t1 := fun {Q} => s127 (E := E) (Q := Q) (h := h') F hn A A' ((C.2 i i0 i1).ef e1 (fun x k w1 w2 => nS x k (by omega))) ((C'.2 j j0 j1).ef e1 (fun x k w1 w2 => nS x k (by omega))) (R.2 i) (R'.2 j)
      rw [k81_2]
      simp +decide (maxSteps := 4000000) (disch := omega) only [k81_0, k81_3, k81_4, k81_6, k81_7, k81_r, k81_s, F_al0, F_al1, T_getI, T_putI, T_putZ, F_al2, T_I, F_is3i, F_is3r, F_is3m, T_ft, F_il3, T_icge, F_is4i, F_is4r, F_is4m, F_il4, T_getR, X_aald, T_iast, F_inc4i, F_inc4r, F_inc4m, T_goto, F_inc3i, F_inc3r, F_inc3m, X_iald, T_ret, c82, c83, c84, c86, c127, ↓s82, FX F, e3, x1, y1, a1, a2, z1, z3, t1, ln_94, show ¬ D'.1 ≤ j by omega, ↓reduceIte, TK, lt_run hn, le43, Int.le_refl, Int.lt_irrefl, Option.some.injEq, exists_eq_left', true_and, and_true, if_true, if_false, decide_eq_false_iff_not, decide_eq_true_eq, Nat.reduceAdd, Nat.reduceLeDiff, Nat.reduceLT, Int.reduceAdd, Int.reduceSub, Int.reduceMul, Int.reduceNeg, not_true_eq_false, not_false_eq_true]
      refine ih () _ ⟨Ef.sA e1 (Or.inl rfl), by rw [sA_o (by decide)]; exact e2, by rw [sA_o (by decide)]; exact e3, fun i' j' w1 w2 w3 => ?_, fun j' w1 w2 => ?_⟩
      · rw [gs_k (by omega) (by omega) (by omega)]
        exact e4 i' j' w1 w2 w3
      · by_cases z : j' = j
        · rw [z, gs_s]
          unfold mack
          rw [if_neg (by omega)]
        · rw [gs_k (by omega) (by omega) (by omega)]
          exact e5 j' w1 (by omega)
    · rintro _ h' ⟨e1, e2, e3, e4, e5⟩
      rw [k81_2]
      simp +decide (maxSteps := 4000000) (disch := omega) only [k81_0, k81_3, k81_4, k81_6, k81_7, k81_r, k81_s, F_al0, F_al1, T_getI, T_putI, T_putZ, F_al2, T_I, F_is3i, F_is3r, F_is3m, T_ft, F_il3, T_icge, F_is4i, F_is4r, F_is4m, F_il4, T_getR, X_aald, T_iast, F_inc4i, F_inc4r, F_inc4m, T_goto, F_inc3i, F_inc3r, F_inc3m, X_iald, T_ret, c82, c83, c84, c86, c127, ↓s82, ↓s127, FX F, e3, ln_94, ↓reduceIte, TK, lt_run hn, le43, Int.le_refl, Int.lt_irrefl, Option.some.injEq, exists_eq_left', true_and, and_true, if_true, if_false, decide_eq_false_iff_not, decide_eq_true_eq, Nat.reduceAdd, Nat.reduceLeDiff, Nat.reduceLT, Int.reduceAdd, Int.reduceSub, Int.reduceMul, Int.reduceNeg, not_true_eq_false, not_false_eq_true]
      refine ih _ _ ⟨Ef.sA e1 (Or.inl rfl), by rw [sA_o (by decide)]; exact e2, by rw [sA_o (by decide)]; exact e3, fun i' j' w1 w2 w3 => ?_⟩
      by_cases z : i' = i
      · subst z
        rcases w3 with w3 | w3
        · rw [gs_k (by omega) (by omega) (by omega)]
          exact e5 j' w3.1 w3.2
        · rw [w3, gs_s]
          rfl
      · rw [gs_k (by omega) (by omega) (by omega)]
        exact e4 i' j' w1 (by omega) w3
  rintro v h2 ⟨e1, e2, e3, e4⟩
  rw [k81_1]
  simp +decide (maxSteps := 4000000) (disch := omega) only [k81_0, k81_3, k81_4, k81_6, k81_7, k81_r, k81_s, F_al0, F_al1, T_getI, T_putI, T_putZ, F_al2, T_I, F_is3i, F_is3r, F_is3m, T_ft, F_il3, T_icge, F_is4i, F_is4r, F_is4m, F_il4, T_getR, X_aald, T_iast, F_inc4i, F_inc4r, F_inc4m, T_goto, F_inc3i, F_inc3r, F_inc3m, X_iald, T_ret, c82, c83, c84, c86, c127, ↓s82, ↓s127, FX F, e2, ↓reduceIte, TK, lt_run hn, le43, Int.le_refl, Int.lt_irrefl, Option.some.injEq, exists_eq_left', true_and, and_true, if_true, if_false, decide_eq_false_iff_not, decide_eq_true_eq, Nat.reduceAdd, Nat.reduceLeDiff, Nat.reduceLT, Int.reduceAdd, Int.reduceSub, Int.reduceMul, Int.reduceNeg, not_true_eq_false, not_false_eq_true]
  refine T_for (σ := Unit) (fun i _ => [.ref 91, .ref p, .ref q, .int (J i), v]) (fun i _ h' => Ef Sma h h' ∧ h' 91 8 = J D.1 ∧ h' 91 9 = J D'.1 ∧ maCs D'.1 (fun x y => maC (mack D D') D.1 D'.1 f g x y i.toNat) D.1 h') 0 m ?_ ?_ 0 () h2 (by omega) (by omega) ⟨e1, e2, e3, e4⟩
  · rintro i _ h' i0 i1 ⟨e1, e2, e3, e4⟩ ih
    have f1 := H.2.2.2.2.1 i
    have f2 := H.2.2.2.2.2.1 i
    have g1 : h' 91 2 = J m := (e1 _ _ (by unfold Sma; omega)).trans b1
    have g2 : gA h' 92 i = J (f i) := (e1.g (by unfold Sma; omega)).trans (b2 i i0 i1).1
    have g3 : gA h' 93 i = J (g i) := (e1.g (by unfold Sma; omega)).trans (b2 i i0 i1).2
    have es : ∀ x y, maC (mack D D') D.1 D'.1 f g x y (i + 1).toNat = if (f i < D.1 ∧ g i < D'.1) ∧ x = f i ∧ y ≠ g i then 1000000 else maC (mack D D') D.1 D'.1 f g x y i.toNat := fun x y => by
      rw [show (i + 1).toNat = i.toNat + 1 by omega]
      show (if (f (i.toNat : Int) < D.1 ∧ g (i.toNat : Int) < D'.1) ∧ x = f (i.toNat : Int) ∧ y ≠ g (i.toNat : Int) then _ else _) = _
      rw [Int.toNat_of_nonneg i0]
    by_cases u1 : f i < D.1
    · by_cases u2 : g i < D'.1
      · rw [k81_5]
        simp +decide (maxSteps := 4000000) (disch := omega) only [k81_0, k81_3, k81_4, k81_6, k81_7, k81_r, k81_s, F_al0, F_al1, T_getI, T_putI, T_putZ, F_al2, T_I, F_is3i, F_is3r, F_is3m, T_ft, F_il3, T_icge, F_is4i, F_is4r, F_is4m, F_il4, T_getR, X_aald, T_iast, F_inc4i, F_inc4r, F_inc4m, T_goto, F_inc3i, F_inc3r, F_inc3m, X_iald, T_ret, c82, c83, c84, c86, c127, ↓s82, ↓s127, FX F, g1, g2, g3, e2, e3, u1, u2, ln_92, ln_93, show ¬ m ≤ i by omega, show ¬ D.1 ≤ f i by omega, show ¬ D'.1 ≤ g i by omega, ↓reduceIte, TK, lt_run hn, le43, Int.le_refl, Int.lt_irrefl, Option.some.injEq, exists_eq_left', true_and, and_true, if_true, if_false, decide_eq_false_iff_not, decide_eq_true_eq, Nat.reduceAdd, Nat.reduceLeDiff, Nat.reduceLT, Int.reduceAdd, Int.reduceSub, Int.reduceMul, Int.reduceNeg, not_true_eq_false, not_false_eq_true]
        refine w83 F hn f1 f2 (fun h3 e5 e6 => ?_)
        simp +decide (maxSteps := 4000000) (disch := omega) only [k81_0, k81_3, k81_4, k81_6, k81_7, k81_r, k81_s, F_al0, F_al1, T_getI, T_putI, T_putZ, F_al2, T_I, F_is3i, F_is3r, F_is3m, T_ft, F_il3, T_icge, F_is4i, F_is4r, F_is4m, F_il4, T_getR, X_aald, T_iast, F_inc4i, F_inc4r, F_inc4m, T_goto, F_inc3i, F_inc3r, F_inc3m, X_iald, T_ret, c82, c83, c84, c86, c127, ↓s82, ↓s127, ↓reduceIte, TK, lt_run hn, le43, Int.le_refl, Int.lt_irrefl, Option.some.injEq, exists_eq_left', true_and, and_true, if_true, if_false, decide_eq_false_iff_not, decide_eq_true_eq, Nat.reduceAdd, Nat.reduceLeDiff, Nat.reduceLT, Int.reduceAdd, Int.reduceSub, Int.reduceMul, Int.reduceNeg, not_true_eq_false, not_false_eq_true]
        refine ih () _ ⟨e1.trans (e5.mono (fun a k z => Or.inl z)), (e5 _ _ (by decide)).trans e2, (e5 _ _ (by decide)).trans e3, fun x y v1 v2 v3 => ?_⟩
        rw [e6 x y v1 (by omega) (by omega) (by omega), e4 x y v1 v2 v3]
        dsimp only
        rw [es]
        by_cases z : x = f i ∧ y ≠ g i
        · rw [if_pos z, if_pos ⟨⟨u1, u2⟩, z⟩]
        · rw [if_neg z, if_neg (fun y => z y.2)]
      · rw [k81_5]
        simp +decide (maxSteps := 4000000) (disch := omega) only [k81_0, k81_3, k81_4, k81_6, k81_7, k81_r, k81_s, F_al0, F_al1, T_getI, T_putI, T_putZ, F_al2, T_I, F_is3i, F_is3r, F_is3m, T_ft, F_il3, T_icge, F_is4i, F_is4r, F_is4m, F_il4, T_getR, X_aald, T_iast, F_inc4i, F_inc4r, F_inc4m, T_goto, F_inc3i, F_inc3r, F_inc3m, X_iald, T_ret, c82, c83, c84, c86, c127, ↓s82, ↓s127, FX F, g1, g2, g3, e2, e3, u1, u2, ln_92, ln_93, show ¬ m ≤ i by omega, show ¬ D.1 ≤ f i by omega, show D'.1 ≤ g i by omega, ↓reduceIte, TK, lt_run hn, le43, Int.le_refl, Int.lt_irrefl, Option.some.injEq, exists_eq_left', true_and, and_true, if_true, if_false, decide_eq_false_iff_not, decide_eq_true_eq, Nat.reduceAdd, Nat.reduceLeDiff, Nat.reduceLT, Int.reduceAdd, Int.reduceSub, Int.reduceMul, Int.reduceNeg, not_true_eq_false, not_false_eq_true]
        refine ih () _ ⟨e1, e2, e3, fun x y v1 v2 v3 => ?_⟩
        dsimp only
        rw [es, if_neg (fun z => u2 z.1.2)]
        exact e4 x y v1 v2 v3
    · rw [k81_5]
      simp +decide (maxSteps := 4000000) (disch := omega) only [k81_0, k81_3, k81_4, k81_6, k81_7, k81_r, k81_s, F_al0, F_al1, T_getI, T_putI, T_putZ, F_al2, T_I, F_is3i, F_is3r, F_is3m, T_ft, F_il3, T_icge, F_is4i, F_is4r, F_is4m, F_il4, T_getR, X_aald, T_iast, F_inc4i, F_inc4r, F_inc4m, T_goto, F_inc3i, F_inc3r, F_inc3m, X_iald, T_ret, c82, c83, c84, c86, c127, ↓s82, ↓s127, FX F, g1, g2, g3, e2, e3, u1, ln_92, ln_93, show ¬ m ≤ i by omega, show D.1 ≤ f i by omega, ↓reduceIte, TK, lt_run hn, le43, Int.le_refl, Int.lt_irrefl, Option.some.injEq, exists_eq_left', true_and, and_true, if_true, if_false, decide_eq_false_iff_not, decide_eq_true_eq, Nat.reduceAdd, Nat.reduceLeDiff, Nat.reduceLT, Int.reduceAdd, Int.reduceSub, Int.reduceMul, Int.reduceNeg, not_true_eq_false, not_false_eq_true]
      refine ih () _ ⟨e1, e2, e3, fun x y v1 v2 v3 => ?_⟩
      dsimp only
      rw [es, if_neg (fun z => u1 z.1.1)]
      exact e4 x y v1 v2 v3
  · rintro _ h' ⟨e1, e2, e3, e4⟩
    have g1 : h' 91 2 = J m := (e1 _ _ (by unfold Sma; omega)).trans b1
    rw [k81_5]
    simp +decide (maxSteps := 4000000) (disch := omega) only [k81_0, k81_3, k81_4, k81_6, k81_7, k81_r, k81_s, F_al0, F_al1, T_getI, T_putI, T_putZ, F_al2, T_I, F_is3i, F_is3r, F_is3m, T_ft, F_il3, T_icge, F_is4i, F_is4r, F_is4m, F_il4, T_getR, X_aald, T_iast, F_inc4i, F_inc4r, F_inc4m, T_goto, F_inc3i, F_inc3r, F_inc3m, X_iald, T_ret, c82, c83, c84, c86, c127, ↓s82, ↓s127, FX F, g1, ↓reduceIte, TK, lt_run hn, le43, Int.le_refl, Int.lt_irrefl, Option.some.injEq, exists_eq_left', true_and, and_true, if_true, if_false, decide_eq_false_iff_not, decide_eq_true_eq, Nat.reduceAdd, Nat.reduceLeDiff, Nat.reduceLT, Int.reduceAdd, Int.reduceSub, Int.reduceMul, Int.reduceNeg, not_true_eq_false, not_false_eq_true]
    refine w84 F hn hV e2 e3 e4 (fun h3 e5 e6 => ?_)
    simp +decide (maxSteps := 4000000) (disch := omega) only [k81_0, k81_3, k81_4, k81_6, k81_7, k81_r, k81_s, F_al0, F_al1, T_getI, T_putI, T_putZ, F_al2, T_I, F_is3i, F_is3r, F_is3m, T_ft, F_il3, T_icge, F_is4i, F_is4r, F_is4m, F_il4, T_getR, X_aald, T_iast, F_inc4i, F_inc4r, F_inc4m, T_goto, F_inc3i, F_inc3r, F_inc3m, X_iald, T_ret, c82, c83, c84, c86, c127, ↓s82, ↓s127, ↓reduceIte, TK, lt_run hn, le43, Int.le_refl, Int.lt_irrefl, Option.some.injEq, exists_eq_left', true_and, and_true, if_true, if_false, decide_eq_false_iff_not, decide_eq_true_eq, Nat.reduceAdd, Nat.reduceLeDiff, Nat.reduceLT, Int.reduceAdd, Int.reduceSub, Int.reduceMul, Int.reduceNeg, not_true_eq_false, not_false_eq_true]
    have e7 : maCs D'.1 (maCC (mack D D') D.1 D'.1 m f g) D.1 h3 := fun i j v1 v2 v3 => by rw [e5.g (by decide)]; exact e4 i j v1 v2 v3
    refine w86 F hn hV ((e5 _ _ (by decide)).trans e2) ((e5 _ _ (by decide)).trans e3) e7 e6 (fun h4 e8 e9 => ?_)
    have w := maW_r R'.1
    have l0 : gA h4 95 0 = J (maT (maCC (mack D D') D.1 D'.1 m f g) D.1 D'.1 D.1.toNat 0) := by
      rw [e8.g (by decide)]
      have := e6 0 0 (by omega) (by omega) (by omega) (by omega)
      rw [show D.1 - 0 = D.1 by omega] at this
      exact this
    simp +decide (maxSteps := 4000000) (disch := omega) only [k81_0, k81_3, k81_4, k81_6, k81_7, k81_r, k81_s, F_al0, F_al1, T_getI, T_putI, T_putZ, F_al2, T_I, F_is3i, F_is3r, F_is3m, T_ft, F_il3, T_icge, F_is4i, F_is4r, F_is4m, F_il4, T_getR, X_aald, T_iast, F_inc4i, F_inc4r, F_inc4m, T_goto, F_inc3i, F_inc3r, F_inc3m, X_iald, T_ret, c82, c83, c84, c86, c127, ↓s82, ↓s127, FX F, l0, ln_95, ↓reduceIte, TK, lt_run hn, le43, Int.le_refl, Int.lt_irrefl, Option.some.injEq, exists_eq_left', true_and, and_true, if_true, if_false, decide_eq_false_iff_not, decide_eq_true_eq, Nat.reduceAdd, Nat.reduceLeDiff, Nat.reduceLT, Int.reduceAdd, Int.reduceSub, Int.reduceMul, Int.reduceNeg, not_true_eq_false, not_false_eq_true]
    refine k h4 ((e1.trans (e5.mono (fun a k z => Or.inr (Or.inl z)))).trans (e8.mono (fun a k z => Or.inr (Or.inr (Or.inl z))))) ?_ (fun i i0 i1 => e9 i i0 i1)
    rw [e8 _ _ (by decide), e5 _ _ (by decide)]
    exact e2
end MD
