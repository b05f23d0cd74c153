/-! WALLS -/
def en (l : List (Int × Int)) (i : Int) : Int × Int := l.getD i.toNat (0, 0)
def esq (l : List (Int × Int)) (i j : Int) : Int := ((en l j).1 - (en l i).1) * ((en l j).1 - (en l i).1) + ((en l j).2 - (en l i).2) * ((en l j).2 - (en l i).2)
def wl1 (f : Int → Int) (l : List (Int × Int)) (g i j : Int) : Int → Int := if 0 < esq l i j ∧ esq l i j ≤ g * g then lin f 1 (en l i).1 (en l i).2 (en l j).1 (en l j).2 else f
def wlJ (f : Int → Int) (l : List (Int × Int)) (g i : Int) : Nat → Int → Int
  | 0 => f
  | k + 1 => wl1 (wlJ f l g i k) l g i (i + 1 + k)
def wlI (f : Int → Int) (l : List (Int × Int)) (g : Int) : Nat → Int → Int
  | 0 => f
  | k + 1 => wlJ (wlI f l g k) l g k (l.length - k - 1)
section WL
variable {E : AEn} {h h' : AHi} {hr : AHr} {n : Nat} {Q : ARs → Prop} {f : Int → Int} {l : List (Int × Int)} {g : Int}
theorem wlJ_s {i j : Int} (h : i + 1 ≤ j) : wlJ f l g i (j + 1 - (i + 1)).toNat = wl1 (wlJ f l g i (j - (i + 1)).toNat) l g i j := by
  rw [show (j + 1 - (i + 1)).toNat = (j - (i + 1)).toNat + 1 by omega]
  show wl1 (wlJ f l g i (j - (i + 1)).toNat) l g i (i + 1 + ((j - (i + 1)).toNat : Int)) = _
  rw [show i + 1 + ((j - (i + 1)).toNat : Int) = j by omega]
theorem wlI_s {i : Int} (h : 0 ≤ i) : wlI f l g (i + 1).toNat = wlJ (wlI f l g i.toNat) l g i (l.length - (i + 1)).toNat := by
  rw [show (i + 1).toNat = i.toNat + 1 by omega]
  show wlJ (wlI f l g i.toNat) l g (i.toNat : Int) (l.length - i.toNat - 1) = _
  rw [show ((i.toNat : Nat) : Int) = i by omega, show l.length - i.toNat - 1 = ((l.length : Int) - (i + 1)).toNat by omega]
theorem ldr_0 {v ax ay bx bY : Int} (hv : v ≠ 0) {q : Int} : ∀ k, ldr f v ax ay bx bY k q = 0 → f q = 0 := by
  intro k
  induction k with
  | zero => exact fun h => h
  | succ k ih =>
    unfold ldr upd1
    split
    · exact fun h => absurd h hv
    · exact ih
theorem wl1_0 {i j q : Int} (hq : wl1 f l g i j q = 0) : f q = 0 := by
  unfold wl1 at hq
  split at hq
  · exact ldr_0 (by decide) _ hq
  · exact hq
theorem wlJ_0 {i q : Int} : ∀ k, wlJ f l g i k q = 0 → f q = 0 := by
  intro k
  induction k with
  | zero => exact fun h => h
  | succ k ih => exact fun h => ih (wl1_0 h)
theorem wlI_0 {q : Int} : ∀ k, wlI f l g k q = 0 → f q = 0 := by
  intro k
  induction k with
  | zero => exact fun h => h
  | succ k ih => exact fun h => ih (wlJ_0 _ h)
theorem wlI_r (hf : ∀ q, 0 ≤ f q ∧ f q ≤ 15) : ∀ k q, 0 ≤ wlI f l g k q ∧ wlI f l g k q ≤ 15 := by
  have h1 : ∀ f : Int → Int, (∀ q, 0 ≤ f q ∧ f q ≤ 15) → ∀ i j q, 0 ≤ wl1 f l g i j q ∧ wl1 f l g i j q ≤ 15 := fun f hf i j q => by
    unfold wl1
    split
    · exact lin_r hf (by decide) q
    · exact hf q
  have h2 : ∀ (f : Int → Int), (∀ q, 0 ≤ f q ∧ f q ≤ 15) → ∀ i k q, 0 ≤ wlJ f l g i k q ∧ wlJ f l g i k q ≤ 15 := fun f hf i k => by
    induction k with
    | zero => exact hf
    | succ k ih => exact h1 _ ih _ _
  intro k
  induction k with
  | zero => exact hf
  | succ k ih => exact h2 _ ih _ _
theorem en_m {i : Int} (i0 : 0 ≤ i) (i1 : i < l.length) : l[i.toNat]? = some (en l i) := by
  unfold en
  rw [List.getD_eq_getElem?_getD, List.getElem?_eq_getElem (by omega)]
  rfl
theorem en_on (ho : ∀ e ∈ l, onP e.1 e.2) {i : Int} (i0 : 0 ≤ i) (i1 : i < l.length) : onP (en l i).1 (en l i).2 := ho _ (List.mem_of_getElem? (en_m i0 i1))
theorem EC.en (L : EC h l) {i : Int} (i0 : 0 ≤ i) (i1 : i < l.length) : gA h 83 i = J (en l i).1 ∧ gA h 84 i = J (en l i).2 := by
  have := L.2 i.toNat _ (en_m i0 i1)
  rwa [show ((i.toNat : Nat) : Int) = i by omega] at this
theorem w35 (F : FH hr) (hn : 775 ≤ n) (hg : 0 ≤ g ∧ g ≤ 8) (L : EC h l) (hl : l.length ≤ 16) (ho : ∀ e ∈ l, onP e.1 e.2) (P : PA h 79 f)
    (k : ∀ h', PA h' 81 (wlI f l g l.length) → Ef (fun a _ => a = 81) h h' → Q (none, h', hr, n)) : Sp E 35 [.ref 78, .int (J g)] h hr n Q := by
  have q79 : a_ln E 79 = 1536 := rfl
  have q81 : a_ln E 81 = 1536 := rfl
  simp +decide (maxSteps := 4000000) (disch := omega) only [k35_0, k35_3, k35_4, k35_5, k35_r, k35_s, F_al0, T_getR, T_I, J_cp, F_is2i, F_is2r, F_is2m, T_ft, F_il2, T_getI, T_icge, T_add, F_is3i, F_is3r, F_is3m, F_il3, X_iald, T_sub, F_is4i, F_is4r, F_is4m, F_is5i, F_is5r, F_is5m, F_il4, T_mul, F_il5, F_is6i, F_is6r, F_is6m, F_il6, J_ifle, F_il1, T_icgt, F_inc3i, F_inc3r, F_inc3m, T_goto, F_inc2i, F_inc2r, F_inc2m, T_ret, c32, FX F, true_or, TK, lt_run hn, le43, Int.le_refl, Int.lt_irrefl, Option.some.injEq, exists_eq_left', true_and, and_true, if_true, if_false, decide_eq_false_iff_not, decide_eq_true_eq, Nat.reduceAdd, Nat.reduceLeDiff, Nat.reduceLT, Int.reduceAdd, Int.reduceSub, Int.reduceMul, Int.reduceNeg, not_true_eq_false, not_false_eq_true]
  have c0 : PA (cpA h 79 0 81 0 1536) 81 f := fun q q0 q1 => by
    rw [cp_g (by omega) (by omega) (by omega) q0, if_pos (by omega), show (0 : Int) + (q - 0) = q by omega]
    exact P q q0 q1
  have e0 : Ef (fun a _ => a = 81) h (cpA h 79 0 81 0 1536) := cp_e Ef.refl (fun _ => rfl)
  refine T_for (σ := Value × Value × Value × Value) (fun i v => [.ref 78, .int (J g), .int (J i), v.1, v.2.1, v.2.2.1, v.2.2.2]) (fun i v h' => Ef (fun a _ => a = 81) h h' ∧ PA h' 81 (wlI f l g i.toNat)) 0 l.length ?_ ?_ 0 (a_mk, a_mk, a_mk, a_mk) _ (by omega) (by omega) ⟨e0, c0⟩
  · rintro i ⟨v3, v4, v5, v6⟩ h2 i0 i1 ⟨e2, P2⟩ ih
    dsimp only
    have n2 := (L.ef e2 (fun a k q q' => by omega)).1
    rw [k35_1]
    simp +decide (maxSteps := 4000000) (disch := omega) only [k35_0, k35_3, k35_4, k35_5, k35_r, k35_s, F_al0, T_getR, T_I, J_cp, F_is2i, F_is2r, F_is2m, T_ft, F_il2, T_getI, T_icge, T_add, F_is3i, F_is3r, F_is3m, F_il3, X_iald, T_sub, F_is4i, F_is4r, F_is4m, F_is5i, F_is5r, F_is5m, F_il4, T_mul, F_il5, F_is6i, F_is6r, F_is6m, F_il6, J_ifle, F_il1, T_icgt, F_inc3i, F_inc3r, F_inc3m, T_goto, F_inc2i, F_inc2r, F_inc2m, T_ret, c32, FX F, n2, show ¬ (l.length : Int) ≤ i by omega, TK, lt_run hn, le43, Int.le_refl, Int.lt_irrefl, Option.some.injEq, exists_eq_left', true_and, and_true, if_true, if_false, decide_eq_false_iff_not, decide_eq_true_eq, Nat.reduceAdd, Nat.reduceLeDiff, Nat.reduceLT, Int.reduceAdd, Int.reduceSub, Int.reduceMul, Int.reduceNeg, not_true_eq_false, not_false_eq_true]
    refine T_for (σ := Value × Value × Value) (fun j v => [.ref 78, .int (J g), .int (J i), .int (J j), v.1, v.2.1, v.2.2]) (fun j v h' => Ef (fun a _ => a = 81) h h' ∧ PA h' 81 (wlJ (wlI f l g i.toNat) l g i (j - (i + 1)).toNat)) (i + 1) l.length ?_ ?_ (i + 1) (v4, v5, v6) _ (by omega) (by omega) ⟨e2, by rw [show i + 1 - (i + 1) = 0 by omega]; exact P2⟩
    · rintro j ⟨v4, v5, v6⟩ h3 j0 j1 ⟨e3, P3⟩ ih2
      dsimp only
      have L3 := L.ef e3 (fun a k q q' => by omega)
      have n3 := L3.1
      have a1 := L3.en i0 i1
      have a2 := L3.en (i := j) (by omega) j1
      have o1 := en_on ho i0 i1
      have o2 := en_on ho (i := j) (by omega) j1
      obtain ⟨o11, o12⟩ := id o1
      obtain ⟨o21, o22⟩ := id o2
      have ws := wlJ_s (f := wlI f l g i.toNat) (l := l) (g := g) j0
      have m1 := mulb (a := (en l j).1 - (en l i).1) (b := (en l j).1 - (en l i).1) (A := 47) (B := 47) (by omega) (by omega)
      have m2 := mulb (a := (en l j).2 - (en l i).2) (b := (en l j).2 - (en l i).2) (A := 47) (B := 47) (by omega) (by omega)
      have m3 := mulb (a := g) (b := g) (A := 8) (B := 8) (by omega) (by omega)
      by_cases c : 0 < esq l i j ∧ esq l i j ≤ g * g
      · have c1 := c.1
        have c2 := c.2
        unfold esq at c1 c2
        rw [k35_2]
        simp +decide (maxSteps := 4000000) (disch := omega) only [k35_0, k35_3, k35_4, k35_5, k35_r, k35_s, F_al0, T_getR, T_I, J_cp, F_is2i, F_is2r, F_is2m, T_ft, F_il2, T_getI, T_icge, T_add, F_is3i, F_is3r, F_is3m, F_il3, X_iald, T_sub, F_is4i, F_is4r, F_is4m, F_is5i, F_is5r, F_is5m, F_il4, T_mul, F_il5, F_is6i, F_is6r, F_is6m, F_il6, J_ifle, F_il1, T_icgt, F_inc3i, F_inc3r, F_inc3m, T_goto, F_inc2i, F_inc2r, F_inc2m, T_ret, c32, FX F, n3, a1, a2, ln_83, ln_84, show ¬ (l.length : Int) ≤ j by omega, show ¬ ((en l j).1 - (en l i).1) * ((en l j).1 - (en l i).1) + ((en l j).2 - (en l i).2) * ((en l j).2 - (en l i).2) ≤ 0 by omega, show ¬ g * g < ((en l j).1 - (en l i).1) * ((en l j).1 - (en l i).1) + ((en l j).2 - (en l i).2) * ((en l j).2 - (en l i).2) by omega, TK, lt_run hn, le43, Int.le_refl, Int.lt_irrefl, Option.some.injEq, exists_eq_left', true_and, and_true, if_true, if_false, decide_eq_false_iff_not, decide_eq_true_eq, Nat.reduceAdd, Nat.reduceLeDiff, Nat.reduceLT, Int.reduceAdd, Int.reduceSub, Int.reduceMul, Int.reduceNeg, not_true_eq_false, not_false_eq_true]
        refine w32 hn rfl rfl (by decide) o1 o2 P3 (fun h4 P4 e4 => ?_)
        simp +decide (maxSteps := 4000000) (disch := omega) only [k35_0, k35_3, k35_4, k35_5, k35_r, k35_s, F_al0, T_getR, T_I, J_cp, F_is2i, F_is2r, F_is2m, T_ft, F_il2, T_getI, T_icge, T_add, F_is3i, F_is3r, F_is3m, F_il3, X_iald, T_sub, F_is4i, F_is4r, F_is4m, F_is5i, F_is5r, F_is5m, F_il4, T_mul, F_il5, F_is6i, F_is6r, F_is6m, F_il6, J_ifle, F_il1, T_icgt, F_inc3i, F_inc3r, F_inc3m, T_goto, F_inc2i, F_inc2r, F_inc2m, T_ret, c32, TK, lt_run hn, le43, Int.le_refl, Int.lt_irrefl, Option.some.injEq, exists_eq_left', true_and, and_true, if_true, if_false, decide_eq_false_iff_not, decide_eq_true_eq, Nat.reduceAdd, Nat.reduceLeDiff, Nat.reduceLT, Int.reduceAdd, Int.reduceSub, Int.reduceMul, Int.reduceNeg, not_true_eq_false, not_false_eq_true]
        refine ih2 (_, _, _) _ ⟨e3.trans e4, ?_⟩
        rw [ws]
        unfold wl1
        rw [if_pos c]
        exact P4
      · have en2 : PA h3 81 (wlJ (wlI f l g i.toNat) l g i (j + 1 - (i + 1)).toNat) := by
          rw [ws]
          unfold wl1
          rw [if_neg c]
          exact P3
        unfold esq at c
        by_cases c1 : ((en l j).1 - (en l i).1) * ((en l j).1 - (en l i).1) + ((en l j).2 - (en l i).2) * ((en l j).2 - (en l i).2) ≤ 0
        · rw [k35_2]
          simp +decide (maxSteps := 4000000) (disch := omega) only [k35_0, k35_3, k35_4, k35_5, k35_r, k35_s, F_al0, T_getR, T_I, J_cp, F_is2i, F_is2r, F_is2m, T_ft, F_il2, T_getI, T_icge, T_add, F_is3i, F_is3r, F_is3m, F_il3, X_iald, T_sub, F_is4i, F_is4r, F_is4m, F_is5i, F_is5r, F_is5m, F_il4, T_mul, F_il5, F_is6i, F_is6r, F_is6m, F_il6, J_ifle, F_il1, T_icgt, F_inc3i, F_inc3r, F_inc3m, T_goto, F_inc2i, F_inc2r, F_inc2m, T_ret, c32, FX F, n3, a1, a2, ln_83, ln_84, show ¬ (l.length : Int) ≤ j by omega, c1, TK, lt_run hn, le43, Int.le_refl, Int.lt_irrefl, Option.some.injEq, exists_eq_left', true_and, and_true, if_true, if_false, decide_eq_false_iff_not, decide_eq_true_eq, Nat.reduceAdd, Nat.reduceLeDiff, Nat.reduceLT, Int.reduceAdd, Int.reduceSub, Int.reduceMul, Int.reduceNeg, not_true_eq_false, not_false_eq_true]
          exact ih2 (_, _, _) _ ⟨e3, en2⟩
        · rw [k35_2]
          simp +decide (maxSteps := 4000000) (disch := omega) only [k35_0, k35_3, k35_4, k35_5, k35_r, k35_s, F_al0, T_getR, T_I, J_cp, F_is2i, F_is2r, F_is2m, T_ft, F_il2, T_getI, T_icge, T_add, F_is3i, F_is3r, F_is3m, F_il3, X_iald, T_sub, F_is4i, F_is4r, F_is4m, F_is5i, F_is5r, F_is5m, F_il4, T_mul, F_il5, F_is6i, F_is6r, F_is6m, F_il6, J_ifle, F_il1, T_icgt, F_inc3i, F_inc3r, F_inc3m, T_goto, F_inc2i, F_inc2r, F_inc2m, T_ret, c32, FX F, n3, a1, a2, ln_83, ln_84, show ¬ (l.length : Int) ≤ j by omega, c1, show g * g < ((en l j).1 - (en l i).1) * ((en l j).1 - (en l i).1) + ((en l j).2 - (en l i).2) * ((en l j).2 - (en l i).2) by omega, TK, lt_run hn, le43, Int.le_refl, Int.lt_irrefl, Option.some.injEq, exists_eq_left', true_and, and_true, if_true, if_false, decide_eq_false_iff_not, decide_eq_true_eq, Nat.reduceAdd, Nat.reduceLeDiff, Nat.reduceLT, Int.reduceAdd, Int.reduceSub, Int.reduceMul, Int.reduceNeg, not_true_eq_false, not_false_eq_true]
          exact ih2 (_, _, _) _ ⟨e3, en2⟩
    · rintro ⟨v4, v5, v6⟩ h3 ⟨e3, P3⟩
      dsimp only
      have n3 := (L.ef e3 (fun a k q q' => by omega)).1
      rw [k35_2]
      simp +decide (maxSteps := 4000000) (disch := omega) only [k35_0, k35_3, k35_4, k35_5, k35_r, k35_s, F_al0, T_getR, T_I, J_cp, F_is2i, F_is2r, F_is2m, T_ft, F_il2, T_getI, T_icge, T_add, F_is3i, F_is3r, F_is3m, F_il3, X_iald, T_sub, F_is4i, F_is4r, F_is4m, F_is5i, F_is5r, F_is5m, F_il4, T_mul, F_il5, F_is6i, F_is6r, F_is6m, F_il6, J_ifle, F_il1, T_icgt, F_inc3i, F_inc3r, F_inc3m, T_goto, F_inc2i, F_inc2r, F_inc2m, T_ret, c32, FX F, n3, TK, lt_run hn, le43, Int.le_refl, Int.lt_irrefl, Option.some.injEq, exists_eq_left', true_and, and_true, if_true, if_false, decide_eq_false_iff_not, decide_eq_true_eq, Nat.reduceAdd, Nat.reduceLeDiff, Nat.reduceLT, Int.reduceAdd, Int.reduceSub, Int.reduceMul, Int.reduceNeg, not_true_eq_false, not_false_eq_true]
      refine ih (_, _, _, _) _ ⟨e3, ?_⟩
      rw [wlI_s i0]
      exact P3
  · rintro ⟨v3, v4, v5, v6⟩ h2 ⟨e2, P2⟩
    dsimp only
    have n2 := (L.ef e2 (fun a k q q' => by omega)).1
    rw [k35_1]
    simp +decide (maxSteps := 4000000) (disch := omega) only [k35_0, k35_3, k35_4, k35_5, k35_r, k35_s, F_al0, T_getR, T_I, J_cp, F_is2i, F_is2r, F_is2m, T_ft, F_il2, T_getI, T_icge, T_add, F_is3i, F_is3r, F_is3m, F_il3, X_iald, T_sub, F_is4i, F_is4r, F_is4m, F_is5i, F_is5r, F_is5m, F_il4, T_mul, F_il5, F_is6i, F_is6r, F_is6m, F_il6, J_ifle, F_il1, T_icgt, F_inc3i, F_inc3r, F_inc3m, T_goto, F_inc2i, F_inc2r, F_inc2m, T_ret, c32, FX F, n2, TK, lt_run hn, le43, Int.le_refl, Int.lt_irrefl, Option.some.injEq, exists_eq_left', true_and, and_true, if_true, if_false, decide_eq_false_iff_not, decide_eq_true_eq, Nat.reduceAdd, Nat.reduceLeDiff, Nat.reduceLT, Int.reduceAdd, Int.reduceSub, Int.reduceMul, Int.reduceNeg, not_true_eq_false, not_false_eq_true]
    exact k h2 P2 e2
end WL
