/-! film: room, and the class's call -/
/-- where THE OUT's bytes lie, and how many cells there are -/
def NN (hr : AHr) (n : Nat) : Prop := (n = 775 ∧ hr 46 0 = some 47) ∨ (n = 776 ∧ hr 46 0 = some 775)
theorem NN.h {hr : AHr} {n : Nat} (N : NN hr n) : 775 ≤ n := by
  rcases N with q | q <;> omega
section FG
variable {E : AEn} {m : Nat} {is : List AOp} {ls st : List Value} {h h' hi : AHi} {hr : AHr} {n : Nat} {Q : ARs → Prop} {e : PEn}
theorem T_newa (k : Nat) (j : Int32) : Tm E m (o_newa k :: is) ls (.int j :: st) hi hr n Q ↔ (a_kd n = k ∧ ¬ j < 0 ∧ a_ln E n = j.toNatClampNeg ∧ j.toNatClampNeg ≤ 60000) ∧ Tm E m is ls (.ref n :: st) (va_up hi n (fun _ => 0)) hr (n + 1) Q := by
  rw [T_sem (fun _ => rfl)]; exact tS_if
theorem Ob775 {hr : AHr} {n : Nat} (h1 : hr 46 0 = some 775) (h2 : 776 ≤ n) : Or E hr n 775 49264 := ⟨⟨h1, by decide, by decide, by omega, by decide +kernel, by decide, by omega, rfl, by decide, by decide, by decide⟩, Or.inr ⟨rfl, rfl⟩⟩
theorem w28 (F : FH hr) (N : NN hr n) (k : ∀ h' hr', Ef (fun x _ => x = 775) h h' → FH hr' → (∀ a k, a ≠ 46 → hr' a k = hr a k) → NN hr' 776 → Q (none, h', hr', 776)) : Sp E 28 [.ref 46, .int (J 49264)] h hr n Q := by
  have kd47 : a_kd 47 = 21 := by decide +kernel
  have kd775 : a_kd 775 = 21 := by decide +kernel
  have ln47 : a_ln E 47 = 512 := rfl
  have ln775 : a_ln E 775 = 49264 := rfl
  have e5 : ((512 : Nat) : Int) = 512 := rfl
  have e6 : ((49264 : Nat) : Int) = 49264 := rfl
  have cl : (J 49264).toNatClampNeg = 49264 := by decide +kernel
  have ng : ¬ (J 49264 < 0) := by decide +kernel
  rcases N with ⟨rfl, q⟩ | ⟨rfl, q⟩
  · have hn : 775 ≤ 775 := Nat.le_refl _
    simp +decide (maxSteps := 4000000) (disch := omega) only [k28_0, k28_1, k28_r, k28_s, F_al0, T_getR, J_alen, F_il1, T_icge, T_putR, T_ft, T_ret, c357, q, kd_46, kd47, ln47, e5, ↓reduceIte, TK, lt_run hn, le43, Int.le_refl, Int.lt_irrefl, Option.some.injEq, exists_eq_left', true_and, and_true, if_true, if_false, decide_eq_false_iff_not, decide_eq_true_eq, Nat.reduceAdd, Nat.reduceLeDiff, Nat.reduceLT, Int.reduceAdd, Int.reduceSub, Int.reduceMul, Int.reduceNeg, not_true_eq_false, not_false_eq_true]
    simp +decide (maxSteps := 4000000) (disch := omega) only [k357_0, k357_1, k357_r, k357_s, F_il1, F_al0, J_alen, J_icne, F_as2i, F_as2r, F_as2m, T_I, F_al2, J_cp, T_ret, c349, ↓s349, kd47, kd775, ln47, ln775, e5, e6, T_newa, cl, ng, ↓reduceIte, TK, lt_run hn, le43, Int.le_refl, Int.lt_irrefl, Option.some.injEq, exists_eq_left', true_and, and_true, if_true, if_false, decide_eq_false_iff_not, decide_eq_true_eq, Nat.reduceAdd, Nat.reduceLeDiff, Nat.reduceLT, Int.reduceAdd, Int.reduceSub, Int.reduceMul, Int.reduceNeg, not_true_eq_false, not_false_eq_true]
    try simp +decide (maxSteps := 4000000) (disch := omega) only [k28_0, k28_1, k28_r, k28_s, F_al0, T_getR, J_alen, F_il1, T_icge, T_putR, T_ft, T_ret, c357, kd_46, ↓reduceIte, TK, lt_run hn, le43, Int.le_refl, Int.lt_irrefl, Option.some.injEq, exists_eq_left', true_and, and_true, if_true, if_false, decide_eq_false_iff_not, decide_eq_true_eq, Nat.reduceAdd, Nat.reduceLeDiff, Nat.reduceLT, Int.reduceAdd, Int.reduceSub, Int.reduceMul, Int.reduceNeg, not_true_eq_false, not_false_eq_true]
    refine k _ _ ?_ (F.set (by decide)) (fun a k ha => hR_o ha ▸ rfl) (Or.inr ⟨rfl, hR_s⟩)
    refine cp_e (fun x y w => ?_) (fun k => rfl)
    exact congrFun (va_up_ne _ _ w) y
  · have hn : 775 ≤ 776 := Nat.le_succ _
    simp +decide (maxSteps := 4000000) (disch := omega) only [k28_0, k28_1, k28_r, k28_s, F_al0, T_getR, J_alen, F_il1, T_icge, T_putR, T_ft, T_ret, c357, q, kd_46, kd775, ln775, e6, ↓reduceIte, TK, lt_run hn, le43, Int.le_refl, Int.lt_irrefl, Option.some.injEq, exists_eq_left', true_and, and_true, if_true, if_false, decide_eq_false_iff_not, decide_eq_true_eq, Nat.reduceAdd, Nat.reduceLeDiff, Nat.reduceLT, Int.reduceAdd, Int.reduceSub, Int.reduceMul, Int.reduceNeg, not_true_eq_false, not_false_eq_true]
    exact k h hr Ef.refl F (fun _ _ _ => rfl) (Or.inr ⟨rfl, q⟩)
end FG
