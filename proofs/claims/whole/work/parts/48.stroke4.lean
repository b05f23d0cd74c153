/-! stroke: both sides -/
section RV
variable {E : AEn} {h h' : AHi} {hr : AHr} {n : Nat} {Q : ARs → Prop} {t p f i w : Int} {b X Y : Int → Int} {S : Nat → Nat → Prop}
/-- what the reference's reading changes -/
def Sr (a k : Nat) : Prop := (a = 704 ∧ (k = 2 ∨ k = 3 ∨ k = 4 ∨ k = 5 ∨ k = 15)) ∨ a = 706 ∨ a = 713 ∨ a = 714
theorem sys_r {a k : Nat} (q : Sr a k) : sys a k = 0 ∨ sys a k = 1 := by
  rcases q with ⟨rfl, rfl | rfl | rfl | rfl | rfl⟩ | rfl | rfl | rfl
  · exact Or.inr rfl
  all_goals exact Or.inl rfl
theorem pts_b (ht : 0 ≤ t ∧ t ≤ 1600) (hb : ∀ i, 0 ≤ b i ∧ b i ≤ 255) : ∀ (q : Nat) (i p : Int) (X Y : Int → Int), (q : Int) = 11 - i → 0 ≤ i → i ≤ 10 → 0 ≤ p → p ≤ t + 1 → (∀ j, 0 ≤ X j ∧ X j ≤ 47) → (∀ j, 0 ≤ Y j ∧ Y j ≤ 31) →
    ((pts b t q i p X Y).1 = -1 ∨ 0 ≤ (pts b t q i p X Y).1 ∧ (pts b t q i p X Y).1 ≤ 1700) ∧ ((pts b t q i p X Y).1 = -1 → (2 ≤ (pts b t q i p X Y).2.1 ∧ (pts b t q i p X Y).2.1 ≤ 10) ∧ (∀ j, 0 ≤ (pts b t q i p X Y).2.2.1 j ∧ (pts b t q i p X Y).2.2.1 j ≤ 47) ∧ (∀ j, 0 ≤ (pts b t q i p X Y).2.2.2 j ∧ (pts b t q i p X Y).2.2.2 j ≤ 31)) := by
  intro q
  induction q with
  | zero => intro i p X Y hq i0 i1; omega
  | succ q ih =>
    intro i p X Y hq i0 i1 p0 p1 hX hY
    unfold pts
    by_cases g0 : 2 ≤ i ∧ t ≤ p
    · rw [if_pos g0]
      exact ⟨Or.inl rfl, fun _ => ⟨⟨g0.1, i1⟩, hX, hY⟩⟩
    · rw [if_neg g0]
      by_cases g2 : bt b t p = 32
      · have hin := bt_in (b := b) (t := t) (i := p) (by omega)
        have rb := rpC_b (i := i) (X := X) (Y := Y) hb ht (p := p + 1) (by omega)
        have rr := rp_rel (i := i) (X := X) (Y := Y) hb ht (p := p + 1) (by omega)
        rw [if_pos g2]
        by_cases g3 : (rpC b t i X Y (p + 1)).2.2.2 = -1
        · obtain ⟨_, q1, q2, q3, q4, q5⟩ := rr.2 g3
          rw [if_pos g3]
          exact ih (i + 1) _ _ _ (by omega) (by omega) (by omega) (by omega) (by omega) (upd_b hX q2 i) (upd_b hY q3 i)
        · rw [if_neg g3]
          exact ⟨rb.2, fun q => absurd q g3⟩
      · rw [if_neg g2]
        refine ⟨?_, fun q => ?_⟩
        · dsimp only
          omega
        · dsimp only at q
          omega
theorem rdS_b (ht : 0 ≤ t ∧ t ≤ 1600) (hb : ∀ i, 0 ≤ b i ∧ b i ≤ 255) : ((rdS b t).1 = -1 ∨ 0 ≤ (rdS b t).1 ∧ (rdS b t).1 ≤ 1700) ∧ ((rdS b t).1 = -1 → SR (rdS b t).2) := by
  have nb := num_b (t := t) (f := -1) hb ht 1 15 (p := 0) (by decide) (Or.inl rfl)
  have nr := (num_rel (b := b) (t := t) hb (lo := 1) (hi := 15) (p := 0) (by decide)).2
  unfold rdS
  by_cases g : (numC b t 1 15 0 (-1)).2.2 = -1
  · rw [if_pos g]
    obtain ⟨_, q1, q2, q3⟩ := nr g
    have pb := pts_b ht hb 11 0 (numC b t 1 15 0 (-1)).2.1 (fun _ => 0) (fun _ => 0) (by omega) (by omega) (by omega) (by omega) (by omega) (fun _ => by omega) (fun _ => by omega)
    refine ⟨pb.1, fun q => ?_⟩
    obtain ⟨p1, p2, p3⟩ := pb.2 q
    exact ⟨q1, p1, fun j => ⟨p2 j, p3 j⟩⟩
  · rw [if_neg g]
    exact ⟨nb.2.1, fun q => absurd q g⟩
/-- the reference behind its reading -/
theorem e216 (F : FH hr) (hn : 775 ≤ n) {d m c : Int} {v3 v4 v5 : Value} {s : Stk} (hd : 0 ≤ d ∧ d ≤ 15) (hm : 0 ≤ m ∧ m ≤ 8) (hf : f = -1 ∨ 0 ≤ f ∧ f ≤ 1700) (m3 : gA h 708 d = J m) (hs : f = -1 → s.1 = c ∧ (0 ≤ s.2.1 ∧ s.2.1 ≤ 10) ∧ Rm h s.2.1 s.2.2.1 s.2.2.2)
    (k1 : f ≠ -1 → Q (some (.int (J (-1000 - f))), MS h p f, hr, n))
    (k2 : f = -1 → m = 8 → Q (some (.int (J (-4))), MS h p f, hr, n))
    (k3 : ∀ h', Ef (fun a k => Sk (8 * d + m).toNat a k ∨ (a = 708 ∧ k = d.toNat)) (MS h p f) h' → f = -1 → m < 8 → gA h' 708 d = J (m + 1) → SM h' (8 * d + m) s → Q (some (.int (J m)), h', hr, n)) :
    Tm E 216 (a_bl 216 7) [.ref 704, .int (J d), .int (J c), v3, v4, v5] [] (MS h p f) hr n Q := by
  have c1 : gA (MS h p f) 708 d = J m := by rw [MS_g (by decide)]; exact m3
  rw [k216_7]
  by_cases g : f = -1
  · subst g
    obtain ⟨s1, s2, s3⟩ := hs rfl
    by_cases g2 : m = 8
    · simp +decide (maxSteps := 4000000) (disch := omega) only [k216_0, k216_1, k216_3, k216_4, k216_5, k216_6, k216_7, k216_8, k216_9, k216_r, k216_s, F_al0, F_il1, J_ifne, T_I, T_ret, F_is2i, F_is2r, F_is2m, T_putI, T_putZ, T_ft, J_ifeq, T_getI, T_iclt, T_icge, F_is3i, F_is3r, F_is3m, J_icne, F_is4i, F_is4r, F_is4m, F_is5i, F_is5r, F_is5m, J_ifle, T_getR, T_sub, X_iald, F_il4, F_il5, F_il3, T_iast, T_dupI, T_dupR, T_add, T_goto, F_il2, T_dup2, c217, c218, c220, c221, c224, c225, c226, c227, ↓s218, ↓s224, ↓s225, ↓s226, FM F, MX, ↓s221 F hn, c1, g2, ln_708, TK, lt_run hn, le43, Int.le_refl, Int.lt_irrefl, Option.some.injEq, exists_eq_left', true_and, and_true, if_true, if_false, decide_eq_false_iff_not, decide_eq_true_eq, Nat.reduceAdd, Nat.reduceLeDiff, Nat.reduceLT, Int.reduceAdd, Int.reduceSub, Int.reduceMul, Int.reduceNeg, not_true_eq_false, not_false_eq_true]
      exact k2 rfl g2
    · simp +decide (maxSteps := 4000000) (disch := omega) only [k216_0, k216_1, k216_3, k216_4, k216_5, k216_6, k216_7, k216_8, k216_9, k216_r, k216_s, F_al0, F_il1, J_ifne, T_I, T_ret, F_is2i, F_is2r, F_is2m, T_putI, T_putZ, T_ft, J_ifeq, T_getI, T_iclt, T_icge, F_is3i, F_is3r, F_is3m, J_icne, F_is4i, F_is4r, F_is4m, F_is5i, F_is5r, F_is5m, J_ifle, T_getR, T_sub, X_iald, F_il4, F_il5, F_il3, T_iast, T_dupI, T_dupR, T_add, T_goto, F_il2, T_dup2, c217, c218, c220, c221, c224, c225, c226, c227, ↓s218, ↓s224, ↓s225, ↓s226, FM F, MX, ↓s221 F hn, c1, g2, ln_708, TK, lt_run hn, le43, Int.le_refl, Int.lt_irrefl, Option.some.injEq, exists_eq_left', true_and, and_true, if_true, if_false, decide_eq_false_iff_not, decide_eq_true_eq, Nat.reduceAdd, Nat.reduceLeDiff, Nat.reduceLT, Int.reduceAdd, Int.reduceSub, Int.reduceMul, Int.reduceNeg, not_true_eq_false, not_false_eq_true]
      have R : Rm (MS h p (-1)) s.2.1 s.2.2.1 s.2.2.2 := ⟨by rw [MS_j (by decide)]; exact s3.1, fun j j0 j1 => by rw [MS_g (by decide), MS_g (by decide)]; exact s3.2 j j0 j1⟩
      refine w227 F hn (by omega) (by omega) s2 R (fun h1 C1 e1 => ?_)
      have c2 : gA h1 708 d = J m := by rw [e1.g (fun q => by unfold Sk at q; omega)]; exact c1
      simp +decide (maxSteps := 4000000) (disch := omega) only [k216_0, k216_1, k216_3, k216_4, k216_5, k216_6, k216_7, k216_8, k216_9, k216_r, k216_s, F_al0, F_il1, J_ifne, T_I, T_ret, F_is2i, F_is2r, F_is2m, T_putI, T_putZ, T_ft, J_ifeq, T_getI, T_iclt, T_icge, F_is3i, F_is3r, F_is3m, J_icne, F_is4i, F_is4r, F_is4m, F_is5i, F_is5r, F_is5m, J_ifle, T_getR, T_sub, X_iald, F_il4, F_il5, F_il3, T_iast, T_dupI, T_dupR, T_add, T_goto, F_il2, T_dup2, c217, c218, c220, c221, c224, c225, c226, c227, ↓s218, ↓s221, ↓s224, ↓s225, ↓s226, FM F, c2, ln_708, gs_s, TK, lt_run hn, le43, Int.le_refl, Int.lt_irrefl, Option.some.injEq, exists_eq_left', true_and, and_true, if_true, if_false, decide_eq_false_iff_not, decide_eq_true_eq, Nat.reduceAdd, Nat.reduceLeDiff, Nat.reduceLT, Int.reduceAdd, Int.reduceSub, Int.reduceMul, Int.reduceNeg, not_true_eq_false, not_false_eq_true]
      rw [show m + 1 - 1 = m by omega]
      refine k3 _ (Ef.sA (e1.mono fun x k q => Or.inl q) (Or.inr ⟨rfl, rfl⟩)) rfl (by omega) gs_s ?_
      rw [← s1] at C1
      exact C1.ef (S := fun a k => a = 708) (by omega) s2.2 (Ef.refl.sA rfl) (by decide) (by decide) (fun i _ _ => by decide)
  · simp +decide (maxSteps := 4000000) (disch := omega) only [k216_0, k216_1, k216_3, k216_4, k216_5, k216_6, k216_7, k216_8, k216_9, k216_r, k216_s, F_al0, F_il1, J_ifne, T_I, T_ret, F_is2i, F_is2r, F_is2m, T_putI, T_putZ, T_ft, J_ifeq, T_getI, T_iclt, T_icge, F_is3i, F_is3r, F_is3m, J_icne, F_is4i, F_is4r, F_is4m, F_is5i, F_is5r, F_is5m, J_ifle, T_getR, T_sub, X_iald, F_il4, F_il5, F_il3, T_iast, T_dupI, T_dupR, T_add, T_goto, F_il2, T_dup2, c217, c218, c220, c221, c224, c225, c226, c227, ↓s218, ↓s224, ↓s225, FM F, MX, ↓s221 F hn, ↓s226 F hn, g, TK, lt_run hn, le43, Int.le_refl, Int.lt_irrefl, Option.some.injEq, exists_eq_left', true_and, and_true, if_true, if_false, decide_eq_false_iff_not, decide_eq_true_eq, Nat.reduceAdd, Nat.reduceLeDiff, Nat.reduceLT, Int.reduceAdd, Int.reduceSub, Int.reduceMul, Int.reduceNeg, not_true_eq_false, not_false_eq_true]
    exact k1 g
theorem w216 (F : FH hr) (hn : 775 ≤ n) {d m : Int} (hd : 0 ≤ d ∧ d ≤ 15) (hm : 0 ≤ m ∧ m ≤ 8) (ht : 0 ≤ t ∧ t ≤ 1600) (hb : ∀ i, 0 ≤ b i ∧ b i ≤ 255) (m1 : h 704 2 = J t) (m2 : ∀ i, 0 ≤ i → i < t → gA h 705 i = J (b i)) (m3 : gA h 708 d = J m)
    (k1 : ∀ h', h' 704 2 = J 0 → Ef Sr h h' → (rdS b t).1 ≠ -1 → Q (some (.int (J (-1000 - (rdS b t).1))), h', hr, n))
    (k2 : ∀ h', h' 704 2 = J 0 → Ef Sr h h' → (rdS b t).1 = -1 → m = 8 → Q (some (.int (J (-4))), h', hr, n))
    (k3 : ∀ h', h' 704 2 = J 0 → Ef (fun a k => Sr a k ∨ Sk (8 * d + m).toNat a k ∨ (a = 708 ∧ k = d.toNat)) h h' → (rdS b t).1 = -1 → m < 8 → gA h' 708 d = J (m + 1) → SM h' (8 * d + m) (rdS b t).2 → Q (some (.int (J m)), h', hr, n)) : Sp E 216 [.ref 704, .int (J d)] h hr n Q := by
  simp +decide (maxSteps := 4000000) (disch := omega) only [k216_0, k216_1, k216_3, k216_4, k216_5, k216_6, k216_7, k216_8, k216_9, k216_r, k216_s, F_al0, F_il1, J_ifne, T_I, T_ret, F_is2i, F_is2r, F_is2m, T_putI, T_putZ, T_ft, J_ifeq, T_getI, T_iclt, T_icge, F_is3i, F_is3r, F_is3m, J_icne, F_is4i, F_is4r, F_is4m, F_is5i, F_is5r, F_is5m, J_ifle, T_getR, T_sub, X_iald, F_il4, F_il5, F_il3, T_iast, T_dupI, T_dupR, T_add, T_goto, F_il2, T_dup2, c217, c218, c220, c221, c224, c225, c226, c227, ↓s218, ↓s221, ↓s224, ↓s225, ↓s226, TK, lt_run hn, le43, Int.le_refl, Int.lt_irrefl, Option.some.injEq, exists_eq_left', true_and, and_true, if_true, if_false, decide_eq_false_iff_not, decide_eq_true_eq, Nat.reduceAdd, Nat.reduceLeDiff, Nat.reduceLT, Int.reduceAdd, Int.reduceSub, Int.reduceMul, Int.reduceNeg, not_true_eq_false, not_false_eq_true]
  refine w217 F hn ht hb m1 m2 (fun h1 T1 c1 e1 => ?_)
  have nr := num_rel (b := b) (t := t) hb (lo := 1) (hi := 15) (p := 0) (by decide)
  have nb := num_b (t := t) (f := -1) hb ht 1 15 (p := 0) (by decide) (Or.inl rfl)
  have nbM := numM_b (t := t) (f := -1) hb ht false (lo := 1) (hi := 15) (by decide) (p := 0) (by decide) (Or.inl rfl)
  have rb := rdS_b ht hb
  simp +decide (maxSteps := 4000000) (disch := omega) only [k216_0, k216_1, k216_3, k216_4, k216_5, k216_6, k216_7, k216_8, k216_9, k216_r, k216_s, F_al0, F_il1, J_ifne, T_I, T_ret, F_is2i, F_is2r, F_is2m, T_putI, T_putZ, T_ft, J_ifeq, T_getI, T_iclt, T_icge, F_is3i, F_is3r, F_is3m, J_icne, F_is4i, F_is4r, F_is4m, F_is5i, F_is5r, F_is5m, J_ifle, T_getR, T_sub, X_iald, F_il4, F_il5, F_il3, T_iast, T_dupI, T_dupR, T_add, T_goto, F_il2, T_dup2, c217, c218, c220, c221, c224, c225, c226, c227, ↓s218, ↓s221, ↓s224, ↓s225, ↓s226, hd, x220 F hn T1, TK, lt_run hn, le43, Int.le_refl, Int.lt_irrefl, Option.some.injEq, exists_eq_left', true_and, and_true, if_true, if_false, decide_eq_false_iff_not, decide_eq_true_eq, Nat.reduceAdd, Nat.reduceLeDiff, Nat.reduceLT, Int.reduceAdd, Int.reduceSub, Int.reduceMul, Int.reduceNeg, not_true_eq_false, not_false_eq_true]
  rw [MS_f (by decide)]
  have e2 : Ef Sr h (hI h1 704 15 (J 0)) := Ef.hI (e1.mono fun a k q => by unfold Sr; omega) (Or.inl ⟨rfl, by omega⟩)
  have T2 : TpM (hI h1 704 15 (J 0)) t b := T1.ef (S := fun a k => a = 704 ∧ k = 15) (Ef.refl.hI ⟨rfl, rfl⟩) (by decide) (fun k => by omega)
  have c2 : hI h1 704 15 (J 0) 704 2 = J 0 := by rw [hI_k (by decide)]; exact c1
  have sm : ∀ {h1 : AHi} {p f : Int}, Ef Sr h1 (MS h1 p f) := fun {h1 p f} => Ef_MS.mono fun a k q => by unfold Sr; omega
  have c3 : ∀ {h2 : AHi}, Ef Sr h h2 → gA h2 708 d = J m := fun e => by rw [e.g (fun q => by unfold Sr at q; omega)]; exact m3
  have c4 : ∀ {h2 : AHi} {p f : Int}, h2 704 2 = J 0 → MS h2 p f 704 2 = J 0 := fun e => by rw [MS_j (by decide)]; exact e
  unfold rdS at k1 k2 k3 rb
  by_cases g : (numC b t 1 15 0 (-1)).2.2 = -1
  · rw [if_pos g] at k1 k2 k3 rb
    obtain ⟨q0, q1, q2, q3⟩ := nr.2 g
    rw [q0, g]
    refine z216 F hn ht hb 11 0 _ (fun _ => 0) (fun _ => 0) _ _ _ _ (by omega) (by omega) (by omega) (by omega) (by omega) (fun _ => by omega) (fun _ => by omega) T2 ⟨hI_s, fun j _ _ => by omega⟩ (fun h2 p2 v3 v4 v5 a1 a2 a3 a6 => ?_)
    have a3' : Ef Sr h h2 := e2.trans (a3.mono fun a k q => by unfold Sn at q; unfold Sr; omega)
    have c5 : h2 704 2 = J 0 := by rw [a3 704 2 (fun q => by unfold Sn at q; omega)]; exact c2
    refine e216 F hn (c := (numC b t 1 15 0 (-1)).1) (s := ((numC b t 1 15 0 (-1)).1, (pts b t 11 0 (numC b t 1 15 0 (-1)).2.1 (fun _ => 0) (fun _ => 0)).2)) hd hm rb.1 (c3 a3') (fun q => ⟨rfl, ?_, a6 q⟩) (fun q => k1 _ (c4 c5) (a3'.trans sm) q) (fun q q' => k2 _ (c4 c5) (a3'.trans sm) q q') (fun h3 e3 q q' s1 s2 => k3 h3 ?_ (Ef.trans ((a3'.trans sm).mono fun a k q => Or.inl q) (e3.mono fun a k q => Or.inr q)) q q' s1 s2)
    · have := (rb.2 q).2.1
      exact ⟨Int.le_trans (by decide) this.1, this.2⟩
    · rw [e3 704 2 (fun q => by unfold Sk at q; omega)]
      exact c4 c5
  · rw [if_neg g] at k1 k2 k3 rb
    have g' : (numM b t false 1 15 0 (-1)).2.2 ≠ -1 := by rw [nr.1]; exact g
    rw [k216_2]
    simp +decide (maxSteps := 4000000) (disch := omega) only [k216_0, k216_1, k216_3, k216_4, k216_5, k216_6, k216_8, k216_9, k216_r, k216_s, F_al0, F_il1, J_ifne, T_I, T_ret, F_is2i, F_is2r, F_is2m, T_putI, T_putZ, T_ft, J_ifeq, T_getI, T_iclt, T_icge, F_is3i, F_is3r, F_is3m, J_icne, F_is4i, F_is4r, F_is4m, F_is5i, F_is5r, F_is5m, J_ifle, T_getR, T_sub, X_iald, F_il4, F_il5, F_il3, T_iast, T_dupI, T_dupR, T_add, T_goto, F_il2, T_dup2, c217, c218, c220, c221, c224, c225, c226, c227, ↓s218, ↓s224, ↓s225, ↓s226, FM F, MX, ↓s221 F hn, g', TK, lt_run hn, le43, Int.le_refl, Int.lt_irrefl, Option.some.injEq, exists_eq_left', true_and, and_true, if_true, if_false, decide_eq_false_iff_not, decide_eq_true_eq, Nat.reduceAdd, Nat.reduceLeDiff, Nat.reduceLT, Int.reduceAdd, Int.reduceSub, Int.reduceMul, Int.reduceNeg, not_true_eq_false, not_false_eq_true]
    rw [nr.1]
    exact e216 F hn (s := ((numM b t false 1 15 0 (-1)).1, 0, fun _ => 0, fun _ => 0)) hd hm rb.1 (c3 e2) (fun q => absurd q g) (fun q => k1 _ (c4 c2) (e2.trans sm) q) (fun q q' => k2 _ (c4 c2) (e2.trans sm) q q') (fun h3 e3 q => absurd q g)
theorem SB54 : SB 54 := ⟨49, 0, DB_49, by decide, rfl⟩
theorem f50_0 (F : FH hr) : hr 50 (Int.toNat 0) = some 54 := (F 50 0 (by decide +kernel)).trans (by decide +kernel)
/-- with one stroke more -/
def addS (D : Drw) (s : Stk) : Drw := (D.1 + 1, fun i => if i = D.1 then s else D.2 i)
theorem addS_r {D : Drw} (R : DRr D) {s : Stk} (hs : SR s) (h8 : D.1 < 8) : DRr (addS D s) := by
  have r := R.1
  refine ⟨?_, fun i => ?_⟩
  · show 0 ≤ D.1 + 1 ∧ D.1 + 1 ≤ 8
    omega
  · show SR (if i = D.1 then s else D.2 i)
    split
    · exact hs
    · exact R.2 i
/-- an empty tape on both sides -/
theorem CpT_0 (c1 : h 44 1 = J 0) (c2 : h 704 2 = J 0) : CpT h := ⟨0, fun _ => 0, ⟨by decide, fun _ => by show (0 : Int) ≤ 0 ∧ (0 : Int) ≤ 255; decide, c1, fun i i0 i1 => by omega⟩, c2, fun i i0 i1 => by omega⟩
theorem prt_all (s : Stk) : prt s 0 (s.2.1 - 1) = s := by
  obtain ⟨c, p, X, Y⟩ := s
  unfold prt
  dsimp only
  rw [show p - 1 - 0 + 1 = p by omega, show (fun j => X (0 + j)) = X from funext fun j => by rw [Int.zero_add], show (fun j => Y (0 + j)) = Y from funext fun j => by rw [Int.zero_add]]
/-- what the class's reading changes -/
def Sq (a k : Nat) : Prop := a = 44 ∨ (54 ≤ a ∧ a ≤ 56)
theorem sys_q {a k : Nat} (q : Sq a k) : sys a k = 0 ∨ sys a k = 1 := by
  rcases q with rfl | q
  · show (if k = 1 then 1 else 0) = 0 ∨ (if k = 1 then 1 else 0) = 1
    split
    · exact Or.inr rfl
    · exact Or.inl rfl
  · exact Or.inl (sys_0 (by omega) (by omega))
theorem Pstroke (F : FH hr) (hn : 775 ≤ n) (C : Cp3 h hr) (CT : CpT h) (x : Int32) : Pr2 E 136 216 [.int x] h hr n (Po (fun h' => Cp3 h' hr ∧ CpT h') 1 3 h hr n) := by
  have C0 := C
  obtain ⟨D, ρ, C⟩ := C
  obtain ⟨t, b, T, m1, m2⟩ := CT
  obtain ⟨a, ha, ha', rfl⟩ := J_of x
  have OT := Ob_tape (E := E) F hn
  have rb := rdS_b T.1 T.2.1
  have fin : ∀ h1 h2 : AHi, Ef Sq h h1 → h1 44 1 = J 0 → Ef Sr h1 h2 → h2 704 2 = J 0 → (Cp3 h2 hr ∧ CpT h2) ∧ Kp 1 3 h h2 := fun h1 h2 e1 c1 e2 c2 => by
    have K : Kp 1 1 h h2 := Ef.trans (e1.mono fun x k q => by have := sys_q q; omega) (e2.mono fun x k q => by have := sys_r q; omega)
    refine ⟨⟨C0.sm (K.sm (by decide) (by decide) (by decide)), CpT_0 ?_ c2⟩, K.mono (by decide) (by decide)⟩
    rw [e2 44 1 (fun q => by unfold Sr at q; omega)]
    exact c1
  unfold Pr2
  by_cases g : 0 ≤ a ∧ a ≤ 15
  case neg =>
    simp +decide (maxSteps := 4000000) (disch := omega) only [k136_0, k136_1, k136_2, k136_r, k136_s, F_il1, J_ifeq, F_al0, T_getR, X_aald, T_goto, T_I, T_ft, F_is2i, F_is2r, F_is2m, F_il2, T_ret, c25, c137, c139, ↓s137, FX F, g, ↓s25 OT, kd_44, TK, lt_run hn, le43, Int.le_refl, Int.lt_irrefl, Option.some.injEq, exists_eq_left', true_and, and_true, if_true, if_false, decide_eq_false_iff_not, decide_eq_true_eq, Nat.reduceAdd, Nat.reduceLeDiff, Nat.reduceLT, Int.reduceAdd, Int.reduceSub, Int.reduceMul, Int.reduceNeg, not_true_eq_false, not_false_eq_true]
    refine ⟨_, rfl, ?_⟩
    simp +decide (maxSteps := 4000000) (disch := omega) only [k216_0, k216_1, k216_3, k216_4, k216_5, k216_6, k216_7, k216_8, k216_9, k216_r, k216_s, F_al0, F_il1, J_ifne, T_I, T_ret, F_is2i, F_is2r, F_is2m, T_putI, T_putZ, T_ft, J_ifeq, T_getI, T_iclt, T_icge, F_is3i, F_is3r, F_is3m, J_icne, F_is4i, F_is4r, F_is4m, F_is5i, F_is5r, F_is5m, J_ifle, T_getR, T_sub, X_iald, F_il4, F_il5, F_il3, T_iast, T_dupI, T_dupR, T_add, T_goto, F_il2, T_dup2, c217, c218, c220, c221, c224, c225, c226, c227, ↓s218, ↓s221, ↓s224, ↓s225, ↓s226, TK, lt_run hn, le43, Int.le_refl, Int.lt_irrefl, Option.some.injEq, exists_eq_left', true_and, and_true, if_true, if_false, decide_eq_false_iff_not, decide_eq_true_eq, Nat.reduceAdd, Nat.reduceLeDiff, Nat.reduceLT, Int.reduceAdd, Int.reduceSub, Int.reduceMul, Int.reduceNeg, not_true_eq_false, not_false_eq_true]
    refine w217 F hn T.1 T.2.1 (by rw [hI_o (by decide)]; exact m1) (fun i i0 i1 => by rw [gA_o (by decide)]; exact m2 i i0 i1) (fun h1 T1 c1 e1 => ?_)
    simp +decide (maxSteps := 4000000) (disch := omega) only [k216_0, k216_1, k216_3, k216_4, k216_5, k216_6, k216_7, k216_8, k216_9, k216_r, k216_s, F_al0, F_il1, J_ifne, T_I, T_ret, F_is2i, F_is2r, F_is2m, T_putI, T_putZ, T_ft, J_ifeq, T_getI, T_iclt, T_icge, F_is3i, F_is3r, F_is3m, J_icne, F_is4i, F_is4r, F_is4m, F_is5i, F_is5r, F_is5m, J_ifle, T_getR, T_sub, X_iald, F_il4, F_il5, F_il3, T_iast, T_dupI, T_dupR, T_add, T_goto, F_il2, T_dup2, c217, c218, c220, c221, c224, c225, c226, c227, ↓s218, ↓s221, ↓s224, ↓s225, ↓s226, g, TK, lt_run hn, le43, Int.le_refl, Int.lt_irrefl, Option.some.injEq, exists_eq_left', true_and, and_true, if_true, if_false, decide_eq_false_iff_not, decide_eq_true_eq, Nat.reduceAdd, Nat.reduceLeDiff, Nat.reduceLT, Int.reduceAdd, Int.reduceSub, Int.reduceMul, Int.reduceNeg, not_true_eq_false, not_false_eq_true]
    have A := fin (hI h 44 1 (J 0)) (MS h1 0 (-1)) (Ef.refl.hI (Or.inl rfl)) hI_s ((e1.mono fun x k q => by unfold Sr; omega).trans (Ef_MS.mono fun x k q => by unfold Sr; omega)) (by rw [MS_j (by decide)]; exact c1)
    first | exact ⟨rfl, A, rfl, rfl⟩ | exact ⟨A, rfl, rfl⟩ | exact A
  obtain ⟨P, c, m⟩ := C.2 a g.1 (by omega)
  have r := C.1 a
  have r1 := r.1
  have x1 := X48 F g.1 (show a < 16 by omega)
  have B := DB_d g.1 (show a < 16 by omega)
  have x2 := B.x E F
  have x5 := B.r
  simp +decide (maxSteps := 4000000) (disch := omega) only [k136_0, k136_1, k136_2, k136_r, k136_s, F_il1, J_ifeq, F_al0, T_getR, X_aald, T_goto, T_I, T_ft, F_is2i, F_is2r, F_is2m, F_il2, T_ret, c25, c137, c139, ↓s25, ↓s137, FX F, g, x1, x2, kd_48, ln_48, kd_44, TK, lt_run hn, le43, Int.le_refl, Int.lt_irrefl, Option.some.injEq, exists_eq_left', true_and, and_true, if_true, if_false, decide_eq_false_iff_not, decide_eq_true_eq, Nat.reduceAdd, Nat.reduceLeDiff, Nat.reduceLT, Int.reduceAdd, Int.reduceSub, Int.reduceMul, Int.reduceNeg, not_true_eq_false, not_false_eq_true]
  simp +decide (maxSteps := 4000000) (disch := omega) only [k139_0, k139_1, k139_2, k139_r, k139_s, F_al0, T_getR, T_I, X_aald, F_as2i, F_as2r, F_as2m, F_al2, J_ifne, T_ret, F_al1, T_getI, T_iclt, T_sub, T_popI, c16, c24, c39, c111, ↓s16, ↓s24, FX F, f50_0 F, kd_54, kd_44, kd_50, ln_50, TK, lt_run hn, le43, Int.le_refl, Int.lt_irrefl, Option.some.injEq, exists_eq_left', true_and, and_true, if_true, if_false, decide_eq_false_iff_not, decide_eq_true_eq, Nat.reduceAdd, Nat.reduceLeDiff, Nat.reduceLT, Int.reduceAdd, Int.reduceSub, Int.reduceMul, Int.reduceNeg, not_true_eq_false, not_false_eq_true]
  refine w111 F hn SB54 T (fun h1 p1 e1 p0 p2 q1 q2 => ?_)
  have qs : ∀ {p f : Int}, Ef Sq h (RS h1 p f) := fun {p f} => Ef.trans (e1.mono fun x k q => by unfold Sa at q; unfold Sq; omega) (Ef_RS.mono fun x k q => Or.inl q.1)
  have c1 : RS h1 p1 (rdS b t).1 (159 + 29 * a.toNat) 1 = J (D a).1 := by rw [qs _ _ (fun q => by unfold Sq at q; omega)]; exact c.1
  have mr : ∀ {h' : AHi}, Ef (fun x k => Sq x k ∨ (159 ≤ x ∧ x < 623)) h h' → h' 704 2 = J t ∧ (∀ i, 0 ≤ i → i < t → gA h' 705 i = J (b i)) ∧ gA h' 708 a = J (D a).1 := fun e => by
    refine ⟨?_, fun i i0 i1 => ?_, ?_⟩
    · rw [e 704 2 (fun q => by unfold Sq at q; omega)]
      exact m1
    · rw [e.g (fun q => by unfold Sq at q; omega)]
      exact m2 i i0 i1
    · rw [e.g (fun q => by unfold Sq at q; omega)]
      exact m.1
  by_cases g1 : (rdS b t).1 = -1
  case neg =>
    simp +decide (maxSteps := 4000000) (disch := omega) only [k139_0, k139_1, k139_2, k139_r, k139_s, F_al0, T_getR, T_I, X_aald, F_as2i, F_as2r, F_as2m, F_al2, J_ifne, T_ret, F_al1, T_getI, T_iclt, T_sub, T_popI, c16, c24, c39, c111, FX F, ↓s16 F hn, ↓s24 F hn, g1, kd_44, TK, lt_run hn, le43, Int.le_refl, Int.lt_irrefl, Option.some.injEq, exists_eq_left', true_and, and_true, if_true, if_false, decide_eq_false_iff_not, decide_eq_true_eq, Nat.reduceAdd, Nat.reduceLeDiff, Nat.reduceLT, Int.reduceAdd, Int.reduceSub, Int.reduceMul, Int.reduceNeg, not_true_eq_false, not_false_eq_true]
    simp +decide (maxSteps := 4000000) (disch := omega) only [k136_0, k136_1, k136_2, k136_r, k136_s, F_il1, J_ifeq, F_al0, T_getR, X_aald, T_goto, T_I, T_ft, F_is2i, F_is2r, F_is2m, F_il2, T_ret, c25, c137, c139, ↓s137, FX F, ↓s25 OT, kd_44, TK, lt_run hn, le43, Int.le_refl, Int.lt_irrefl, Option.some.injEq, exists_eq_left', true_and, and_true, if_true, if_false, decide_eq_false_iff_not, decide_eq_true_eq, Nat.reduceAdd, Nat.reduceLeDiff, Nat.reduceLT, Int.reduceAdd, Int.reduceSub, Int.reduceMul, Int.reduceNeg, not_true_eq_false, not_false_eq_true]
    refine ⟨_, rfl, ?_⟩
    have e3 : Ef Sq h (hI (RS h1 p1 (rdS b t).1) 44 1 (J 0)) := qs.hI (Or.inl rfl)
    obtain ⟨y1, y2, y3⟩ := mr (e3.mono fun x k q => Or.inl q)
    exact w216 F hn g r1 T.1 T.2.1 y1 y2 y3 (fun h4 c4 e4 _ => ⟨rfl, fin _ h4 e3 hI_s e4 c4, rfl, rfl⟩) (fun h4 c4 e4 q => absurd q g1) (fun h4 c4 e4 q => absurd q g1)
  obtain ⟨sr, sc⟩ := q2 g1
  have s2 := sr.2.1
  rw [g1] at c1 ⊢
  by_cases g2 : (D a).1 < 8
  case neg =>
    simp +decide (maxSteps := 4000000) (disch := omega) only [k139_0, k139_1, k139_2, k139_r, k139_s, F_al0, T_getR, T_I, X_aald, F_as2i, F_as2r, F_as2m, F_al2, J_ifne, T_ret, F_al1, T_getI, T_iclt, T_sub, T_popI, c16, c24, c39, c111, ↓s24, FX F, ↓s16 F hn, x2, c1, g2, kd_44, TK, lt_run hn, le43, Int.le_refl, Int.lt_irrefl, Option.some.injEq, exists_eq_left', true_and, and_true, if_true, if_false, decide_eq_false_iff_not, decide_eq_true_eq, Nat.reduceAdd, Nat.reduceLeDiff, Nat.reduceLT, Int.reduceAdd, Int.reduceSub, Int.reduceMul, Int.reduceNeg, not_true_eq_false, not_false_eq_true]
    simp +decide (maxSteps := 4000000) (disch := omega) only [k136_0, k136_1, k136_2, k136_r, k136_s, F_il1, J_ifeq, F_al0, T_getR, X_aald, T_goto, T_I, T_ft, F_is2i, F_is2r, F_is2m, F_il2, T_ret, c25, c137, c139, ↓s137, FX F, ↓s25 OT, kd_44, TK, lt_run hn, le43, Int.le_refl, Int.lt_irrefl, Option.some.injEq, exists_eq_left', true_and, and_true, if_true, if_false, decide_eq_false_iff_not, decide_eq_true_eq, Nat.reduceAdd, Nat.reduceLeDiff, Nat.reduceLT, Int.reduceAdd, Int.reduceSub, Int.reduceMul, Int.reduceNeg, not_true_eq_false, not_false_eq_true]
    refine ⟨_, rfl, ?_⟩
    have e3 : Ef Sq h (hI (RS h1 p1 (-1)) 44 1 (J 0)) := qs.hI (Or.inl rfl)
    obtain ⟨y1, y2, y3⟩ := mr (e3.mono fun x k q => Or.inl q)
    exact w216 F hn g r1 T.1 T.2.1 y1 y2 y3 (fun h4 c4 e4 q => absurd g1 q) (fun h4 c4 e4 _ _ => ⟨rfl, fin _ h4 e3 hI_s e4 c4, rfl, rfl⟩) (fun h4 c4 e4 _ q => absurd q g2)
  have sc2 : SC (RS h1 p1 (-1)) 54 (rdS b t).2 := sc.ef Ef_RS (fun x k q1 q2 q => by omega)
  have c54 := sc2.1.2
  simp +decide (maxSteps := 4000000) (disch := omega) only [k139_0, k139_1, k139_2, k139_r, k139_s, F_al0, T_getR, T_I, X_aald, F_as2i, F_as2r, F_as2m, F_al2, J_ifne, T_ret, F_al1, T_getI, T_iclt, T_sub, T_popI, c16, c24, c39, c111, ↓s24, FX F, ↓s16 F hn, x2, c1, c54, g2, kd_44, kd_54, TK, lt_run hn, le43, Int.le_refl, Int.lt_irrefl, Option.some.injEq, exists_eq_left', true_and, and_true, if_true, if_false, decide_eq_false_iff_not, decide_eq_true_eq, Nat.reduceAdd, Nat.reduceLeDiff, Nat.reduceLT, Int.reduceAdd, Int.reduceSub, Int.reduceMul, Int.reduceNeg, not_true_eq_false, not_false_eq_true]
  have pr := P.r (s := (D a).1.toNat) (by omega)
  refine w39 F hn B P SB54 (m := (D a).1) (by omega) (by omega) c1 sc2 s2.2 (by decide) (by omega) (by omega) (fun h2 C2 c2 e2 => ?_)
  rw [prt_all] at C2
  simp +decide (maxSteps := 4000000) (disch := omega) only [k139_0, k139_1, k139_2, k139_r, k139_s, F_al0, T_getR, T_I, X_aald, F_as2i, F_as2r, F_as2m, F_al2, J_ifne, T_ret, F_al1, T_getI, T_iclt, T_sub, T_popI, c16, c24, c39, c111, ↓s16, ↓s24, x2, c2, TK, lt_run hn, le43, Int.le_refl, Int.lt_irrefl, Option.some.injEq, exists_eq_left', true_and, and_true, if_true, if_false, decide_eq_false_iff_not, decide_eq_true_eq, Nat.reduceAdd, Nat.reduceLeDiff, Nat.reduceLT, Int.reduceAdd, Int.reduceSub, Int.reduceMul, Int.reduceNeg, not_true_eq_false, not_false_eq_true]
  simp +decide (maxSteps := 4000000) (disch := omega) only [k136_0, k136_1, k136_2, k136_r, k136_s, F_il1, J_ifeq, F_al0, T_getR, X_aald, T_goto, T_I, T_ft, F_is2i, F_is2r, F_is2m, F_il2, T_ret, c25, c137, c139, ↓s137, FX F, ↓s25 OT, kd_44, TK, lt_run hn, le43, Int.le_refl, Int.lt_irrefl, Option.some.injEq, exists_eq_left', true_and, and_true, if_true, if_false, decide_eq_false_iff_not, decide_eq_true_eq, Nat.reduceAdd, Nat.reduceLeDiff, Nat.reduceLT, Int.reduceAdd, Int.reduceSub, Int.reduceMul, Int.reduceNeg, not_true_eq_false, not_false_eq_true]
  rw [show (D a).1 + 1 - 1 = (D a).1 by omega]
  refine ⟨_, rfl, ?_⟩
  have e3 : Ef (fun x k => Sq x k ∨ (Sa (ρ a (D a).1.toNat) x k ∨ (x = 159 + 29 * a.toNat ∧ k = 1))) h (hI h2 44 1 (J 0)) := Ef.hI (Ef.trans (qs.mono fun x k q => Or.inl q) (e2.mono fun x k q => Or.inr q)) (Or.inl (Or.inl rfl))
  obtain ⟨y1, y2, y3⟩ := mr (e3.mono fun x k q => by rcases q with q | q | q; exact Or.inl q; unfold Sa at q; exact Or.inr (by omega); exact Or.inr (by omega))
  refine w216 F hn g r1 T.1 T.2.1 y1 y2 y3 (fun h4 c4 e4 q => absurd g1 q) (fun h4 c4 e4 _ q => by omega) (fun h4 c4 e4 _ _ z1 z2 => ?_)
  dsimp only
  refine ⟨rfl, ⟨⟨⟨_, _, C.upd g.1 (by omega) (D' := addS (D a) (rdS b t).2) (ρ' := ρ a) ?_ (fun _ _ _ => rfl) (addS_r r sr g2) P ⟨?_, fun s s1 s2 => ?_⟩ ⟨z1, fun s s1 s2 => ?_⟩⟩, CpT_0 ?_ c4⟩, ?_⟩, rfl, rfl⟩
  · refine Ef.trans (e3.mono fun x k q => ?_) (e4.mono fun x k q => ?_)
    · rcases q with q | q | q
      · right
        have := sys_q q
        omega
      · left
        unfold Sa at q
        exact Or.inl (by omega)
      · left
        exact Or.inl (by omega)
    · rcases q with q | q | q
      · right
        have := sys_r q
        omega
      · left
        unfold Sk at q
        unfold Sdc
        omega
      · left
        exact Or.inr (Or.inl q)
  · rw [e4 _ 1 (fun q => by unfold Sr Sk at q; omega), hI_o (by omega)]
    exact c2
  · show SC h4 (ρ a s.toNat) (if s = (D a).1 then (rdS b t).2 else (D a).2 s)
    have s2' : s < (D a).1 + 1 := s2
    have prs := P.r (s := s.toNat) (by omega)
    have step : ∀ st, SC h2 (ρ a s.toNat) st → SC h4 (ρ a s.toNat) st := fun st q => (q.ef (S := fun x k => x = 44) (Ef.refl.hI rfl) (fun x k q1 q2 q => by omega)).ef e4 (fun x k q1 q2 q => by unfold Sr Sk at q; omega)
    by_cases e : s = (D a).1
    · rw [if_pos e]
      refine step _ ?_
      rw [e]
      exact C2
    · rw [if_neg e]
      have ap := P.ap (s := s.toNat) (t := (D a).1.toNat) (by omega) (by omega) (by omega)
      refine step _ (SC.ef (SC.ef (c.2 s s1 (by omega)) qs (fun x k q1 q2 q => by unfold Sq at q; omega)) e2 (fun x k q1 q2 q => by unfold Sa at q; omega))
  · show SM h4 (8 * a + s) (if s = (D a).1 then (rdS b t).2 else (D a).2 s)
    have s2' : s < (D a).1 + 1 := s2
    by_cases e : s = (D a).1
    · rw [if_pos e, e]
      exact z2
    · rw [if_neg e]
      have e5 := Ef.trans (e3.mono (S' := fun x k => (x < 623) ∨ (Sr x k ∨ Sk (8 * a + (D a).1).toNat x k ∨ (x = 708 ∧ k = a.toNat))) fun x k q => by unfold Sq Sa at q; omega) (e4.mono fun x k q => Or.inr q)
      refine (m.2 s s1 (by omega)).ef (by omega) (r.2 s).2.1.2 e5 (fun q => ?_) (fun q => ?_) (fun i _ _ => ⟨fun q => ?_, fun q => ?_⟩)
      all_goals
        unfold Sr Sk at q
        omega
  · rw [e4 44 1 (fun q => by unfold Sr Sk at q; omega), hI_s]
  · refine Ef.trans (e3.mono fun x k q => ?_) (e4.mono fun x k q => ?_)
    · rcases q with q | q | q
      · have := sys_q q
        omega
      · unfold Sa at q
        exact Or.inr (Or.inr (sysS (d := a.toNat) (by omega) (by omega) (by omega)))
      · obtain ⟨rfl, rfl⟩ := q
        exact Or.inr (Or.inr (sysS1 (by omega) (by decide)))
    · rcases q with q | q | q
      · have := sys_r q
        omega
      · refine Or.inr (Or.inr ?_)
        unfold Sk at q
        rcases (show x = 709 ∨ x = 710 ∨ x = 711 ∨ x = 712 by omega) with rfl | rfl | rfl | rfl <;> rfl
      · obtain ⟨rfl, rfl⟩ := q
        exact Or.inr (Or.inr rfl)
end RV
