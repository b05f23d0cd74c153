/-! Reading: both sides' numbers; takes -/
section RR
variable {E : AEn} {h h' : AHi} {hr : AHr} {n : Nat} {Q : ARs → Prop} {t p f : Int} {b : Int → Int}
theorem RS_c {a k : Nat} {v : Int32} (e : a ≠ 44) : hI (RS h p f) a k v = RS (hI h a k v) p f := by
  funext x y
  unfold RS
  by_cases e1 : x = 44
  · subst e1
    rw [hI_o (Ne.symm e)]
    by_cases e2 : y = 3
    · subst e2
      rw [hI_s, hI_s]
    · rw [hI_k e2, hI_k e2]
      by_cases e3 : y = 2
      · subst e3
        rw [hI_s, hI_s]
      · rw [hI_k e3, hI_k e3, hI_o (Ne.symm e)]
  · rw [hI_o e1, hI_o e1]
    by_cases e2 : x = a
    · subst e2
      by_cases e3 : y = k
      · subst e3
        rw [hI_s, hI_s]
      · rw [hI_k e3, hI_k e3, hI_o e, hI_o e]
    · rw [hI_o e2, hI_o e2, hI_o e1, hI_o e1]
theorem RS_d {a : Nat} {i : Int} {v : Int32} (e : a ≠ 44) : sA (RS h p f) a i v = RS (sA h a i v) p f := RS_c e
theorem MS_c {a k : Nat} {v : Int32} (e : a ≠ 704) : hI (MS h p f) a k v = MS (hI h a k v) p f := by
  funext x y
  unfold MS
  by_cases e1 : x = 704
  · subst e1
    rw [hI_o (Ne.symm e)]
    by_cases e2 : y = 5
    · subst e2
      rw [hI_s, hI_s]
    · rw [hI_k e2, hI_k e2]
      by_cases e3 : y = 4
      · subst e3
        rw [hI_s, hI_s]
      · rw [hI_k e3, hI_k e3, hI_o (Ne.symm e)]
  · rw [hI_o e1, hI_o e1]
    by_cases e2 : x = a
    · subst e2
      by_cases e3 : y = k
      · subst e3
        rw [hI_s, hI_s]
      · rw [hI_k e3, hI_k e3, hI_o e, hI_o e]
    · rw [hI_o e2, hI_o e2, hI_o e1, hI_o e1]
theorem MS_d {a : Nat} {i : Int} {v : Int32} (e : a ≠ 704) : sA (MS h p f) a i v = MS (sA h a i v) p f := MS_c e
theorem MS_e {k : Nat} {v : Int32} (e4 : k ≠ 4) (e5 : k ≠ 5) : hI (MS h p f) 704 k v = MS (hI h 704 k v) p f := by
  unfold MS
  rw [hI_cm (Ne.symm e5), hI_cm (Ne.symm e4)]
theorem MS_f {k : Nat} {v : Int32} (e : k ≠ 4 ∧ k ≠ 5) : hI (MS h p f) 704 k v = MS (hI h 704 k v) p f := MS_e e.1 e.2
theorem MS_j {k : Nat} (e : k ≠ 4 ∧ k ≠ 5) : MS h p f 704 k = h 704 k := MS_k e.1 e.2
theorem rf_n {w : Int} (e : f ≠ -1) : rf f w = f := if_neg e
theorem rf_y {w : Int} : rf (-1) w = w := rfl
theorem dgs_n (e : ¬ (48 ≤ bt b t p ∧ bt b t p ≤ 57)) : dgs b t 10 0 0 p f = (0, 0, p, f) := by
  unfold dgs
  rw [if_neg (fun q => e q.2)]
theorem dgs_1 (hb : ∀ i, 0 ≤ b i ∧ b i ≤ 255) (e : 48 ≤ bt b t p ∧ bt b t p ≤ 57) : 1 ≤ (dgs b t 10 0 0 p (-1)).2.1 := by
  have h3 := bt_in (b := b) (t := t) (i := p) (by omega)
  unfold dgs
  rw [if_pos ⟨rfl, e⟩, if_neg (by omega)]
  have := dgs_b (t := t) hb 9 (0 * 10 + bt b t p - 48) (0 + 1) (p + 1) (-1) (by decide) ⟨by omega, by show _ < (10 : Int); omega⟩ (by omega)
  exact this.2.2.2.2.2.1
/-- a number: what it leaves -/
theorem num_b (hb : ∀ i, 0 ≤ b i ∧ b i ≤ 255) (ht : 0 ≤ t ∧ t ≤ 1600) (lo hi : Int) (hp : 0 ≤ p ∧ p ≤ 1700) (hf : f = -1 ∨ 0 ≤ f ∧ f ≤ 1700) : (p ≤ (numC b t lo hi p f).2.1 ∧ ((numC b t lo hi p f).2.1 ≤ t ∨ (numC b t lo hi p f).2.1 = p)) ∧ ((numC b t lo hi p f).2.2 = -1 ∨ 0 ≤ (numC b t lo hi p f).2.2 ∧ (numC b t lo hi p f).2.2 ≤ 1700) ∧ 0 ≤ (numC b t lo hi p f).1 ∧ (numC b t lo hi p f).1 < 1000000000 := by
  have hg := dgs_b (t := t) hb 10 0 0 p f (by omega) (by decide) hp.1
  unfold numC
  generalize dgs b t 10 0 0 p f = g at hg ⊢
  dsimp only
  refine ⟨by omega, ?_, by omega⟩
  unfold rf
  repeat' split
  all_goals omega
theorem num_f {lo hi : Int} (e : f ≠ -1) : (numC b t lo hi p f).2.2 = f := by
  unfold numC
  rw [dgs_f e]
  dsimp only
  rw [if_pos rfl, rf_n e]
  split
  · exact rf_n e
  · rfl
theorem num_rel (hb : ∀ i, 0 ≤ b i ∧ b i ≤ 255) {lo hi : Int} (hp : 0 ≤ p) : (numM b t false lo hi p (-1)).2.2 = (numC b t lo hi p (-1)).2.2 ∧ ((numC b t lo hi p (-1)).2.2 = -1 → numM b t false lo hi p (-1) = numC b t lo hi p (-1) ∧ (lo ≤ (numC b t lo hi p (-1)).1 ∧ (numC b t lo hi p (-1)).1 ≤ hi) ∧ p < (numC b t lo hi p (-1)).2.1 ∧ (numC b t lo hi p (-1)).2.1 ≤ t) := by
  have hg := dgs_b (t := t) hb 10 0 0 p (-1) (by omega) (by decide) hp
  unfold numM numC
  rw [if_pos rfl]
  simp only [Bool.false_and, Bool.false_eq_true, if_false, false_and, or_false]
  by_cases e : 48 ≤ bt b t p ∧ bt b t p ≤ 57
  · have h1 := dgs_1 hb e
    have h3 := bt_in (b := b) (t := t) (i := p) (by omega)
    rw [if_neg (fun q => q e)]
    generalize dgs b t 10 0 0 p (-1) = g at hg h1 ⊢
    rw [if_neg (show ¬ g.2.1 = 0 by omega)]
    by_cases e1 : g.2.2.2 = -1
    · rw [if_pos e1, e1, rf_y]
      by_cases e2 : g.1 < lo ∨ hi < g.1
      · rw [if_pos e2, if_pos e2]
        exact ⟨rfl, fun q => by omega⟩
      · rw [if_neg e2, if_neg e2]
        exact ⟨rfl, fun q => ⟨rfl, by omega, by omega⟩⟩
    · rw [if_neg e1, rf_n e1]
      split
      · exact ⟨rfl, fun q => absurd q e1⟩
      · exact ⟨rfl, fun q => absurd q e1⟩
  · rw [if_pos e, dgs_n e]
    dsimp only
    rw [if_pos rfl, rf_y, rf_n (show p ≠ -1 by omega)]
    split
    · exact ⟨rfl, fun q => by omega⟩
    · exact ⟨rfl, fun q => by omega⟩
theorem int_b (hb : ∀ i, 0 ≤ b i ∧ b i ≤ 255) (ht : 0 ≤ t ∧ t ≤ 1600) (lo hi : Int) (hp : 0 ≤ p ∧ p ≤ 1690) (hf : f = -1 ∨ 0 ≤ f ∧ f ≤ 1700) : (p ≤ (intC b t lo hi p f).2.1 ∧ ((intC b t lo hi p f).2.1 ≤ t ∨ (intC b t lo hi p f).2.1 = p)) ∧ ((intC b t lo hi p f).2.2 = -1 ∨ 0 ≤ (intC b t lo hi p f).2.2 ∧ (intC b t lo hi p f).2.2 ≤ 1700) ∧ -1000000000 < (intC b t lo hi p f).1 ∧ (intC b t lo hi p f).1 < 1000000000 := by
  unfold intC
  split
  · rename_i e
    have h3 := bt_in (b := b) (t := t) (i := p) (by omega)
    have hf0 : (if bt b t (p + 1) = 48 then p + 1 else -1) = -1 ∨ (if bt b t (p + 1) = 48 then p + 1 else -1) = p + 1 := by
      split
      · exact Or.inr rfl
      · exact Or.inl rfl
    generalize (if bt b t (p + 1) = 48 then p + 1 else -1) = f0 at hf0 ⊢
    have hg := dgs_b (t := t) hb 10 0 0 (p + 1) f0 (by omega) (by decide) (by omega)
    dsimp only
    generalize dgs b t 10 0 0 (p + 1) f0 = g at hg ⊢
    refine ⟨by omega, ?_, by omega⟩
    unfold rf
    repeat' split
    all_goals omega
  · have := num_b hb ht lo hi (show 0 ≤ p ∧ p ≤ 1700 by omega) hf
    omega
theorem int_f {lo hi : Int} (e : f ≠ -1) : (intC b t lo hi p f).2.2 = f := by
  unfold intC
  rw [if_neg (fun q => e q.1)]
  exact num_f e
theorem num_0 {lo hi : Int} (e : ¬ (bt b t p = 45)) : numM b t true lo hi p (-1) = numM b t false lo hi p (-1) := by
  unfold numM
  simp only [Bool.true_and, e, decide_false, Bool.false_and]
theorem int_rel (hb : ∀ i, 0 ≤ b i ∧ b i ≤ 255) {lo hi : Int} (hp : 0 ≤ p) : (numM b t true lo hi p (-1)).2.2 = (intC b t lo hi p (-1)).2.2 ∧ ((intC b t lo hi p (-1)).2.2 = -1 → numM b t true lo hi p (-1) = intC b t lo hi p (-1) ∧ (lo ≤ (intC b t lo hi p (-1)).1 ∧ (intC b t lo hi p (-1)).1 ≤ hi) ∧ p < (intC b t lo hi p (-1)).2.1 ∧ (intC b t lo hi p (-1)).2.1 ≤ t) := by
  by_cases e0 : bt b t p = 45
  · have h3 := bt_in (b := b) (t := t) (i := p) (by omega)
    have hM : numM b t true lo hi p (-1) = if ¬ (48 ≤ bt b t (p + 1) ∧ bt b t (p + 1) ≤ 57) ∨ bt b t (p + 1) = 48 then (lo, p + 1, p + 1) else if (dgs b t 10 0 0 (p + 1) (-1)).2.2.2 = -1 then (if -(dgs b t 10 0 0 (p + 1) (-1)).1 < lo ∨ hi < -(dgs b t 10 0 0 (p + 1) (-1)).1 then (lo, (dgs b t 10 0 0 (p + 1) (-1)).2.2.1, p) else (-(dgs b t 10 0 0 (p + 1) (-1)).1, (dgs b t 10 0 0 (p + 1) (-1)).2.2.1, -1)) else (lo, (dgs b t 10 0 0 (p + 1) (-1)).2.2.1, (dgs b t 10 0 0 (p + 1) (-1)).2.2.2) := by
      unfold numM
      rw [if_pos rfl]
      simp only [Bool.true_and, e0, decide_true, if_true, true_and]
    have hC : ∀ f0, f0 = (if bt b t (p + 1) = 48 then p + 1 else -1) → intC b t lo hi p (-1) = (-(dgs b t 10 0 0 (p + 1) f0).1, (dgs b t 10 0 0 (p + 1) f0).2.2.1, if -(dgs b t 10 0 0 (p + 1) f0).1 < lo ∨ hi < -(dgs b t 10 0 0 (p + 1) f0).1 then rf (if (dgs b t 10 0 0 (p + 1) f0).2.1 = 0 then rf (dgs b t 10 0 0 (p + 1) f0).2.2.2 (dgs b t 10 0 0 (p + 1) f0).2.2.1 else (dgs b t 10 0 0 (p + 1) f0).2.2.2) p else if (dgs b t 10 0 0 (p + 1) f0).2.1 = 0 then rf (dgs b t 10 0 0 (p + 1) f0).2.2.2 (dgs b t 10 0 0 (p + 1) f0).2.2.1 else (dgs b t 10 0 0 (p + 1) f0).2.2.2) := fun f0 hf0 => by
      unfold intC
      rw [if_pos ⟨rfl, e0⟩, ← hf0]
    by_cases e : 48 ≤ bt b t (p + 1) ∧ bt b t (p + 1) ≤ 57
    · by_cases e1 : bt b t (p + 1) = 48
      · rw [hM, if_pos (Or.inr e1), hC (p + 1) (by rw [if_pos e1]), dgs_f (show p + 1 ≠ -1 by omega)]
        dsimp only
        rw [if_pos rfl, rf_n (show p + 1 ≠ -1 by omega), rf_n (show p + 1 ≠ -1 by omega)]
        split
        · exact ⟨rfl, fun q => by omega⟩
        · exact ⟨rfl, fun q => by omega⟩
      · have h1 := dgs_1 hb e
        have h4 := bt_in (b := b) (t := t) (i := p + 1) (by omega)
        have hg := dgs_b (t := t) hb 10 0 0 (p + 1) (-1) (by omega) (by decide) (by omega)
        rw [hM, if_neg (fun q => by rcases q with q | q; exact q e; exact e1 q), hC (-1) (by rw [if_neg e1])]
        generalize dgs b t 10 0 0 (p + 1) (-1) = g at hg h1 ⊢
        dsimp only
        rw [if_neg (show ¬ g.2.1 = 0 by omega)]
        by_cases e5 : g.2.2.2 = -1
        · rw [if_pos e5, e5, rf_y]
          by_cases e2 : -g.1 < lo ∨ hi < -g.1
          · rw [if_pos e2, if_pos e2]
            exact ⟨rfl, fun q => by omega⟩
          · rw [if_neg e2, if_neg e2]
            exact ⟨rfl, fun q => ⟨rfl, by omega, by omega⟩⟩
        · rw [if_neg e5, rf_n e5]
          split
          · exact ⟨rfl, fun q => absurd q e5⟩
          · exact ⟨rfl, fun q => absurd q e5⟩
    · rw [hM, if_pos (Or.inl e), hC (-1) (by rw [if_neg (by omega)]), dgs_n e]
      dsimp only
      rw [if_pos rfl, rf_y, rf_n (show p + 1 ≠ -1 by omega)]
      split
      · exact ⟨rfl, fun q => by omega⟩
      · exact ⟨rfl, fun q => by omega⟩
  · rw [num_0 e0]
    unfold intC
    rw [if_neg (fun q => e0 q.2)]
    exact num_rel hb hp
/-- the reference takes the tape -/
theorem w217 (F : FH hr) (hn : 775 ≤ n) (ht : 0 ≤ t ∧ t ≤ 1600) (hb : ∀ i, 0 ≤ b i ∧ b i ≤ 255) (m1 : h 704 2 = J t) (m2 : ∀ i, 0 ≤ i → i < t → gA h 705 i = J (b i))
    (k : ∀ h', TpM h' t b → h' 704 2 = J 0 → Ef (fun a k => (a = 704 ∧ (k = 2 ∨ k = 3)) ∨ a = 706) h h' → Q (none, MS h' 0 (-1), hr, n)) : Sp E 217 [.ref 704] h hr n Q := by
  simp +decide (maxSteps := 4000000) (disch := omega) only [k217_0, k217_2, k217_r, k217_s, T_I, F_is1i, F_is1r, F_is1m, T_ft, F_il1, F_al0, T_getI, T_icge, T_getR, X_iald, T_iast, F_inc1i, F_inc1r, F_inc1m, T_goto, T_putI, T_putZ, T_ret, TK, lt_run hn, le43, Int.le_refl, Int.lt_irrefl, Option.some.injEq, exists_eq_left', true_and, and_true, if_true, if_false, decide_eq_false_iff_not, decide_eq_true_eq, Nat.reduceAdd, Nat.reduceLeDiff, Nat.reduceLT, Int.reduceAdd, Int.reduceSub, Int.reduceMul, Int.reduceNeg, not_true_eq_false, not_false_eq_true]
  refine T_for (σ := Unit) (fun i _ => [.ref 704, .int (J i)]) (fun i _ h' => Ef (fun a k => a = 706) h h' ∧ ∀ q, 0 ≤ q → q < i → gA h' 706 q = J (b q)) 0 t ?_ ?_ 0 () h (by omega) (by omega) ⟨Ef.refl, fun q _ _ => by omega⟩
  · rintro i _ h' i0 i1 ⟨e, e1⟩ ih
    have c1 : h' 704 2 = J t := by rw [e 704 2 (by decide)]; exact m1
    have c2 : gA h' 705 i = J (b i) := by rw [e.g (by decide)]; exact m2 i i0 i1
    rw [k217_1]
    simp +decide (maxSteps := 4000000) (disch := omega) only [k217_0, k217_2, k217_r, k217_s, T_I, F_is1i, F_is1r, F_is1m, T_ft, F_il1, F_al0, T_getI, T_icge, T_getR, X_iald, T_iast, F_inc1i, F_inc1r, F_inc1m, T_goto, T_putI, T_putZ, T_ret, FM F, c1, c2, ln_705, ln_706, show ¬ t ≤ i by omega, TK, lt_run hn, le43, Int.le_refl, Int.lt_irrefl, Option.some.injEq, exists_eq_left', true_and, and_true, if_true, if_false, decide_eq_false_iff_not, decide_eq_true_eq, Nat.reduceAdd, Nat.reduceLeDiff, Nat.reduceLT, Int.reduceAdd, Int.reduceSub, Int.reduceMul, Int.reduceNeg, not_true_eq_false, not_false_eq_true]
    refine ih () _ ⟨e.sA rfl, fun q q0 q1 => ?_⟩
    by_cases g : q = i
    · subst g
      rw [gs_s]
    · rw [gs_k i0 q0 g]
      exact e1 q q0 (by omega)
  · rintro _ h' ⟨e, e1⟩
    have c1 : h' 704 2 = J t := by rw [e 704 2 (by decide)]; exact m1
    rw [k217_1]
    simp +decide (maxSteps := 4000000) (disch := omega) only [k217_0, k217_2, k217_r, k217_s, T_I, F_is1i, F_is1r, F_is1m, T_ft, F_il1, F_al0, T_getI, T_icge, T_getR, X_iald, T_iast, F_inc1i, F_inc1r, F_inc1m, T_goto, T_putI, T_putZ, T_ret, FM F, c1, TK, lt_run hn, le43, Int.le_refl, Int.lt_irrefl, Option.some.injEq, exists_eq_left', true_and, and_true, if_true, if_false, decide_eq_false_iff_not, decide_eq_true_eq, Nat.reduceAdd, Nat.reduceLeDiff, Nat.reduceLT, Int.reduceAdd, Int.reduceSub, Int.reduceMul, Int.reduceNeg, not_true_eq_false, not_false_eq_true]
    refine k (hI (hI h' 704 3 (J t)) 704 2 (J 0)) ⟨ht, hb, ?_, fun i i0 i1 => ?_⟩ hI_s ?_
    · rw [hI_k (by decide), hI_s]
    · rw [gA_o (by decide), gA_o (by decide)]
      exact e1 i i0 i1
    · exact Ef.hI (Ef.hI (e.mono fun a k q => Or.inr q) (Or.inl ⟨rfl, Or.inr rfl⟩)) (Or.inl ⟨rfl, Or.inl rfl⟩)
end RR
