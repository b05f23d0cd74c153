/-! FILLS: unfill -/
/-- x, y, gap, colour -/
abbrev Fil : Type := Int × Int × Int × Int
abbrev Fils : Type := Int × (Int → Fil)
def FR (f : Fil) : Prop := (0 ≤ f.1 ∧ f.1 ≤ 47) ∧ (0 ≤ f.2.1 ∧ f.2.1 ≤ 31) ∧ (0 ≤ f.2.2.1 ∧ f.2.2.1 ≤ 8) ∧ 1 ≤ f.2.2.2 ∧ f.2.2.2 ≤ 15
def FRr (F : Fils) : Prop := (0 ≤ F.1 ∧ F.1 ≤ 6) ∧ ∀ i, FR (F.2 i)
def FcC (h : AHi) (b : Nat) (i : Int) (f : Fil) : Prop := gA h (b + 2) i = J (f.2.1 * 48 + f.1) ∧ gA h (b + 3) i = J f.2.2.1 ∧ gA h (b + 4) i = J f.2.2.2
def FcM (h : AHi) (k : Int) (f : Fil) : Prop := (gA h 720 k = J f.1 ∧ gA h 721 k = J f.2.1) ∧ gA h 722 k = J f.2.2.1 ∧ gA h 723 k = J f.2.2.2
def FC (h : AHi) (b : Nat) (D : Fils) : Prop := h b 5 = J D.1 ∧ ∀ i, 0 ≤ i → i < D.1 → FcC h b i (D.2 i)
def FD (h : AHi) (d : Int) (D : Fils) : Prop := gA h 719 d = J D.1 ∧ ∀ i, 0 ≤ i → i < D.1 → FcM h (6 * d + i) (D.2 i)
def Fw (D : Int → Fils) (h : AHi) : Prop := (∀ d, FRr (D d)) ∧ ∀ d, 0 ≤ d → d < 16 → FC h (159 + 29 * d.toNat) (D d) ∧ FD h d (D d)
def Cp4 (h : AHi) : Prop := ∃ D, Fw D h
def Sfc (d a k : Nat) : Prop := (a = 159 + 29 * d ∧ k = 5) ∨ (159 + 29 * d + 2 ≤ a ∧ a ≤ 159 + 29 * d + 4) ∨ (a = 719 ∧ k = d) ∨ (720 ≤ a ∧ a ≤ 723 ∧ 6 * d ≤ k ∧ k < 6 * d + 6)
section FL
variable {E : AEn} {h h' : AHi} {hr : AHr} {n : Nat} {Q : ARs → Prop} {S : Nat → Nat → Prop}
theorem FcC.ef {b : Nat} {i : Int} {f : Fil} (C : FcC h b i f) (e : Ef S h h') (hs : ∀ x, b + 2 ≤ x → x ≤ b + 4 → ¬ S x i.toNat) : FcC h' b i f := by
  unfold FcC
  rw [e.g (hs _ (by omega) (by omega)), e.g (hs _ (by omega) (by omega)), e.g (hs _ (by omega) (by omega))]
  exact C
theorem FcM.ef {k : Int} {f : Fil} (C : FcM h k f) (e : Ef S h h') (hs : ∀ x, 720 ≤ x → x ≤ 723 → ¬ S x k.toNat) : FcM h' k f := by
  unfold FcM
  rw [e.g (hs _ (by omega) (by omega)), e.g (hs _ (by omega) (by omega)), e.g (hs _ (by omega) (by omega)), e.g (hs _ (by omega) (by omega))]
  exact C
theorem sysF {d a k : Nat} (hd : d < 16) (h1 : 159 + 29 * d + 2 ≤ a) (h2 : a ≤ 159 + 29 * d + 4) : sys a k = 4 := by
  rw [sys_D (by omega) (by omega)]
  unfold sysD
  rcases (show (a - 159) % 29 = 2 ∨ (a - 159) % 29 = 3 ∨ (a - 159) % 29 = 4 by omega) with e | e | e <;> (rw [e]; rfl)
theorem sysF5 {d : Nat} (hd : d < 16) : sys (159 + 29 * d) 5 = 4 := by
  rw [sys_D (by omega) (by omega), show (159 + 29 * d - 159) % 29 = 0 by omega]
  rfl
theorem sysF7 {a k : Nat} (h1 : 719 ≤ a) (h2 : a ≤ 723) : sys a k = 4 := by
  rcases (show a = 719 ∨ a = 720 ∨ a = 721 ∨ a = 722 ∨ a = 723 by omega) with rfl | rfl | rfl | rfl | rfl <;> rfl
theorem Fw.upd {D : Int → Fils} (C : Fw D h) {d : Int} (d0 : 0 ≤ d) (d1 : d < 16) {D' : Fils} (e : Ef (fun a k => Sfc d.toNat a k ∨ sys a k ≠ 4) h h') (R : FRr D') (c : FC h' (159 + 29 * d.toNat) D') (m : FD h' d D') : Fw (fun x => if x = d then D' else D x) h' := by
  refine ⟨fun x => ?_, fun x x0 x1 => ?_⟩
  · dsimp only
    split
    · exact R
    · exact C.1 x
  · dsimp only
    by_cases g : x = d
    · subst g
      rw [if_pos rfl]
      exact ⟨c, m⟩
    · rw [if_neg g]
      obtain ⟨c1, m1⟩ := C.2 x x0 x1
      have r := (C.1 x).1
      refine ⟨⟨?_, fun i i0 i1 => ?_⟩, ?_, fun i i0 i1 => ?_⟩
      · rw [e _ 5 (fun q => ?_)]
        · exact c1.1
        · rcases q with q | q
          · unfold Sfc at q
            omega
          · exact q (sysF5 (by omega))
      · refine (c1.2 i i0 i1).ef e (fun y h1 h2 q => ?_)
        rcases q with q | q
        · unfold Sfc at q
          omega
        · exact q (sysF (d := x.toNat) (by omega) (by omega) (by omega))
      · rw [e.g (fun q => ?_)]
        · exact m1.1
        · rcases q with q | q
          · unfold Sfc at q
            omega
          · exact q rfl
      · refine (m1.2 i i0 i1).ef e (fun y h1 h2 q => ?_)
        rcases q with q | q
        · unfold Sfc at q
          omega
        · exact q (sysF7 (by omega) (by omega))
theorem Fw.sm {D : Int → Fils} (C : Fw D h) (e : Sm 4 h h') : Fw D h' := by
  refine ⟨C.1, fun d d0 d1 => ?_⟩
  obtain ⟨c, m⟩ := C.2 d d0 d1
  have ee : Ef (fun a k => sys a k ≠ 4) h h' := fun a k q => e a k (Decidable.not_not.mp q)
  refine ⟨⟨?_, fun i i0 i1 => ?_⟩, ?_, fun i i0 i1 => ?_⟩
  · rw [e _ 5 (sysF5 (by omega))]
    exact c.1
  · exact (c.2 i i0 i1).ef ee (fun y h1 h2 q => q (sysF (d := d.toNat) (by omega) (by omega) (by omega)))
  · rw [e.g rfl]
    exact m.1
  · exact (m.2 i i0 i1).ef ee (fun y h1 h2 q => q (sysF7 (by omega) (by omega)))
theorem Cp4.sm (C : Cp4 h) (e : Sm 4 h h') : Cp4 h' := by
  obtain ⟨D, C⟩ := C
  exact ⟨D, C.sm e⟩
theorem Fw.cc {D : Int → Fils} (C : Fw D h) (d : Int) (d1 : 0 ≤ d) (d2 : d < 16) : h (159 + 29 * d.toNat) 5 = J (D d).1 := (C.2 d d1 d2).1.1
theorem Fw.mc {D : Int → Fils} (C : Fw D h) (d : Int) (d1 : 0 ≤ d) (d2 : d < 16) : gA h 719 d = J (D d).1 := (C.2 d d1 d2).2.1
theorem s153 (F : FH hr) (hn : 775 ≤ n) {D : Int → Fils} (R : ∀ d, FRr (D d)) (C : ∀ d, 0 ≤ d → d < 16 → h (159 + 29 * d.toNat) 5 = J (D d).1) {a b : Int} (ha : -2147483648 ≤ a) (ha' : a < 2147483648) (hb : -2147483648 ≤ b) (hb' : b < 2147483648) : Sp E 153 [.ref 43, .int (J a), .int (J b)] h hr n Q ↔ Q (some (.int (Bz (decide ((0 ≤ a ∧ a ≤ 15) ∧ 0 ≤ b ∧ b ≤ (D a).1 - 1)))), h, hr, n) := by
  by_cases g : 0 ≤ a ∧ a ≤ 15
  · have x1 := X48 F g.1 (show a < 16 by omega)
    have x2 := (DB_d g.1 (show a < 16 by omega)).x E F
    have c := C a g.1 (by omega)
    have r := (R a).1
    by_cases g2 : 0 ≤ b ∧ b ≤ (D a).1 - 1
    · simp +decide (maxSteps := 4000000) (disch := omega) only [k153_0, k153_1, k153_2, k153_r, k153_s, F_il1, J_ifeq, F_il2, T_I, F_al0, T_getR, X_aald, T_getI, T_sub, T_goto, T_ft, T_ret, c137, c138, ↓s137, ↓s138, FX F, g, x1, x2, c, kd_48, ln_48, g2, TK, lt_run hn, le43, Int.le_refl, Int.lt_irrefl, Option.some.injEq, exists_eq_left', true_and, and_true, if_true, if_false, decide_eq_false_iff_not, decide_eq_true_eq, Nat.reduceAdd, Nat.reduceLeDiff, Nat.reduceLT, Int.reduceAdd, Int.reduceSub, Int.reduceMul, Int.reduceNeg, not_true_eq_false, not_false_eq_true]
      exact Iff.rfl
    · simp +decide (maxSteps := 4000000) (disch := omega) only [k153_0, k153_1, k153_2, k153_r, k153_s, F_il1, J_ifeq, F_il2, T_I, F_al0, T_getR, X_aald, T_getI, T_sub, T_goto, T_ft, T_ret, c137, c138, ↓s137, ↓s138, FX F, g, x1, x2, c, kd_48, ln_48, g2, TK, lt_run hn, le43, Int.le_refl, Int.lt_irrefl, Option.some.injEq, exists_eq_left', true_and, and_true, if_true, if_false, decide_eq_false_iff_not, decide_eq_true_eq, Nat.reduceAdd, Nat.reduceLeDiff, Nat.reduceLT, Int.reduceAdd, Int.reduceSub, Int.reduceMul, Int.reduceNeg, not_true_eq_false, not_false_eq_true]
      exact Iff.rfl
  · simp +decide (maxSteps := 4000000) (disch := omega) only [k153_0, k153_1, k153_2, k153_r, k153_s, F_il1, J_ifeq, F_il2, T_I, F_al0, T_getR, X_aald, T_getI, T_sub, T_goto, T_ft, T_ret, c137, c138, ↓s137, ↓s138, FX F, g, TK, lt_run hn, le43, Int.le_refl, Int.lt_irrefl, Option.some.injEq, exists_eq_left', true_and, and_true, if_true, if_false, decide_eq_false_iff_not, decide_eq_true_eq, Nat.reduceAdd, Nat.reduceLeDiff, Nat.reduceLT, Int.reduceAdd, Int.reduceSub, Int.reduceMul, Int.reduceNeg, not_true_eq_false, not_false_eq_true]
    exact Iff.rfl
theorem s257 (F : FH hr) (hn : 775 ≤ n) {D : Int → Fils} (R : ∀ d, FRr (D d)) (C : ∀ d, 0 ≤ d → d < 16 → gA h 719 d = J (D d).1) {a b : Int} (ha : -2147483648 ≤ a) (ha' : a < 2147483648) (hb : -2147483648 ≤ b) (hb' : b < 2147483648) : Sp E 257 [.ref 704, .int (J a), .int (J b)] h hr n Q ↔ Q (some (.int (Bz (decide ((0 ≤ a ∧ a ≤ 15) ∧ 0 ≤ b ∧ b ≤ (D a).1 - 1)))), h, hr, n) := by
  by_cases g : 0 ≤ a ∧ a ≤ 15
  · have c := C a g.1 (by omega)
    have r := (R a).1
    by_cases g2 : 0 ≤ b ∧ b ≤ (D a).1 - 1
    · simp +decide (maxSteps := 4000000) (disch := omega) only [k257_0, k257_1, k257_2, k257_r, k257_s, F_il1, J_ifeq, F_il2, T_I, F_al0, T_getR, X_iald, T_sub, T_goto, T_ft, T_ret, c218, c219, ↓s218, ↓s219, FM F, g, c, ln_719, g2, TK, lt_run hn, le43, Int.le_refl, Int.lt_irrefl, Option.some.injEq, exists_eq_left', true_and, and_true, if_true, if_false, decide_eq_false_iff_not, decide_eq_true_eq, Nat.reduceAdd, Nat.reduceLeDiff, Nat.reduceLT, Int.reduceAdd, Int.reduceSub, Int.reduceMul, Int.reduceNeg, not_true_eq_false, not_false_eq_true]
      exact Iff.rfl
    · simp +decide (maxSteps := 4000000) (disch := omega) only [k257_0, k257_1, k257_2, k257_r, k257_s, F_il1, J_ifeq, F_il2, T_I, F_al0, T_getR, X_iald, T_sub, T_goto, T_ft, T_ret, c218, c219, ↓s218, ↓s219, FM F, g, c, ln_719, g2, TK, lt_run hn, le43, Int.le_refl, Int.lt_irrefl, Option.some.injEq, exists_eq_left', true_and, and_true, if_true, if_false, decide_eq_false_iff_not, decide_eq_true_eq, Nat.reduceAdd, Nat.reduceLeDiff, Nat.reduceLT, Int.reduceAdd, Int.reduceSub, Int.reduceMul, Int.reduceNeg, not_true_eq_false, not_false_eq_true]
      exact Iff.rfl
  · simp +decide (maxSteps := 4000000) (disch := omega) only [k257_0, k257_1, k257_2, k257_r, k257_s, F_il1, J_ifeq, F_il2, T_I, F_al0, T_getR, X_iald, T_sub, T_goto, T_ft, T_ret, c218, c219, ↓s218, ↓s219, FM F, g, TK, lt_run hn, le43, Int.le_refl, Int.lt_irrefl, Option.some.injEq, exists_eq_left', true_and, and_true, if_true, if_false, decide_eq_false_iff_not, decide_eq_true_eq, Nat.reduceAdd, Nat.reduceLeDiff, Nat.reduceLT, Int.reduceAdd, Int.reduceSub, Int.reduceMul, Int.reduceNeg, not_true_eq_false, not_false_eq_true]
    exact Iff.rfl
def dropF (D : Fils) (s : Int) : Fils := (D.1 - 1, fun i => if i < s then D.2 i else D.2 (i + 1))
theorem w45 (F : FH hr) (hn : 775 ≤ n) {b : Nat} (B : DB b) {D : Fils} (R : FRr D) {s : Int} (hs : 0 ≤ s ∧ s < D.1) (C : FC h b D)
    (k : ∀ h', FC h' b (dropF D s) → Ef (fun a k => (a = b ∧ k = 5) ∨ (b + 2 ≤ a ∧ a ≤ b + 4)) h h' → Q (none, h', hr, n)) : Sp E 45 [.ref b, .int (J s)] h hr n Q := by
  have x1 := B.x E F
  have x2 := B.r
  have r1 := R.1
  simp +decide (maxSteps := 4000000) (disch := omega) only [k45_0, k45_2, k45_r, k45_s, F_il1, F_is2i, F_is2r, F_is2m, T_ft, F_il2, F_al0, T_getI, T_I, T_sub, T_icge, T_getR, T_add, X_iald, T_iast, F_inc2i, F_inc2r, F_inc2m, T_goto, T_dupI, T_dupR, T_putI, T_putZ, T_ret, TK, lt_run hn, le43, Int.le_refl, Int.lt_irrefl, Option.some.injEq, exists_eq_left', true_and, and_true, if_true, if_false, decide_eq_false_iff_not, decide_eq_true_eq, Nat.reduceAdd, Nat.reduceLeDiff, Nat.reduceLT, Int.reduceAdd, Int.reduceSub, Int.reduceMul, Int.reduceNeg, not_true_eq_false, not_false_eq_true]
  refine T_for (σ := Unit) (fun i _ => [.ref b, .int (J s), .int (J i)]) (fun i _ h' => Ef (fun a k => b + 2 ≤ a ∧ a ≤ b + 4) h h' ∧ ∀ q, 0 ≤ q → q < D.1 → FcC h' b q (if s ≤ q ∧ q < i then D.2 (q + 1) else D.2 q)) s (D.1 - 1) ?_ ?_ s () h (by omega) (by omega) ⟨Ef.refl, fun q q1 q2 => ?_⟩
  · rintro i _ h' i0 i1 ⟨e, e1⟩ ih
    have c1 : h' b 5 = J D.1 := by rw [e b 5 (by omega)]; exact C.1
    have c3 := e1 (i + 1) (by omega) (by omega)
    rw [if_neg (by omega)] at c3
    obtain ⟨d1, d2, d3⟩ := c3
    have d2' : gA (sA h' (b + 2) i (J ((D.2 (i + 1)).2.1 * 48 + (D.2 (i + 1)).1))) (b + 3) (i + 1) = J (D.2 (i + 1)).2.2.1 := by rw [gs_o (by omega)]; exact d2
    have d3' : gA (sA (sA h' (b + 2) i (J ((D.2 (i + 1)).2.1 * 48 + (D.2 (i + 1)).1))) (b + 3) i (J (D.2 (i + 1)).2.2.1)) (b + 4) (i + 1) = J (D.2 (i + 1)).2.2.2 := by rw [gs_o (by omega), gs_o (by omega)]; exact d3
    rw [k45_1]
    simp +decide (maxSteps := 4000000) (disch := omega) only [k45_0, k45_2, k45_r, k45_s, F_il1, F_is2i, F_is2r, F_is2m, T_ft, F_il2, F_al0, T_getI, T_I, T_sub, T_icge, T_getR, T_add, X_iald, T_iast, F_inc2i, F_inc2r, F_inc2m, T_goto, T_dupI, T_dupR, T_putI, T_putZ, T_ret, x1, c1, d1, d2', d3', show ¬ D.1 - 1 ≤ i by omega, TK, lt_run hn, le43, Int.le_refl, Int.lt_irrefl, Option.some.injEq, exists_eq_left', true_and, and_true, if_true, if_false, decide_eq_false_iff_not, decide_eq_true_eq, Nat.reduceAdd, Nat.reduceLeDiff, Nat.reduceLT, Int.reduceAdd, Int.reduceSub, Int.reduceMul, Int.reduceNeg, not_true_eq_false, not_false_eq_true]
    refine ih () _ ⟨((e.sA (by omega)).sA (by omega)).sA (by omega), fun q q1 q2 => ?_⟩
    by_cases g : q = i
    · subst g
      rw [if_pos (by omega)]
      refine ⟨?_, ?_, ?_⟩
      · rw [gs_o (by omega), gs_o (by omega), gs_s]
      · rw [gs_o (by omega), gs_s]
      · rw [gs_s]
    · have c4 := e1 q q1 q2
      have c5 : FcC (sA (sA (sA h' (b + 2) i (J ((D.2 (i + 1)).2.1 * 48 + (D.2 (i + 1)).1))) (b + 3) i (J (D.2 (i + 1)).2.2.1)) (b + 4) i (J (D.2 (i + 1)).2.2.2)) b q (if s ≤ q ∧ q < i then D.2 (q + 1) else D.2 q) := c4.ef (S := fun x k => k = i.toNat) (Ef.sA (Ef.sA (Ef.sA Ef.refl rfl) rfl) rfl) (fun x x1 x2 => by omega)
      by_cases g1 : s ≤ q ∧ q < i
      · rw [if_pos g1] at c5
        rw [if_pos (by omega)]
        exact c5
      · rw [if_neg g1] at c5
        rw [if_neg (by omega)]
        exact c5
  · rintro _ h' ⟨e, e1⟩
    have c1 : h' b 5 = J D.1 := by rw [e b 5 (by omega)]; exact C.1
    rw [k45_1]
    simp +decide (maxSteps := 4000000) (disch := omega) only [k45_0, k45_2, k45_r, k45_s, F_il1, F_is2i, F_is2r, F_is2m, T_ft, F_il2, F_al0, T_getI, T_I, T_sub, T_icge, T_getR, T_add, X_iald, T_iast, F_inc2i, F_inc2r, F_inc2m, T_goto, T_dupI, T_dupR, T_putI, T_putZ, T_ret, x1, c1, TK, lt_run hn, le43, Int.le_refl, Int.lt_irrefl, Option.some.injEq, exists_eq_left', true_and, and_true, if_true, if_false, decide_eq_false_iff_not, decide_eq_true_eq, Nat.reduceAdd, Nat.reduceLeDiff, Nat.reduceLT, Int.reduceAdd, Int.reduceSub, Int.reduceMul, Int.reduceNeg, not_true_eq_false, not_false_eq_true]
    refine k _ ⟨hI_s, fun i i0 i1 => ?_⟩ (Ef.hI (e.mono fun x k q => Or.inr q) (Or.inl ⟨rfl, rfl⟩))
    have i1' : i < D.1 - 1 := i1
    have c3 := e1 i i0 (by omega)
    have c4 : FcC (hI h' b 5 (J (D.1 - 1))) b i (if s ≤ i ∧ i < D.1 - 1 then D.2 (i + 1) else D.2 i) := c3.ef (S := fun x k => x = b) (Ef.refl.hI rfl) (fun y h1 h2 => by omega)
    show FcC _ b i (if i < s then D.2 i else D.2 (i + 1))
    by_cases g : i < s
    · rw [if_pos g]
      rw [if_neg (by omega)] at c4
      exact c4
    · rw [if_neg g]
      rw [if_pos (by omega)] at c4
      exact c4
  · rw [if_neg (by omega)]
    exact C.2 q q1 q2
theorem w258 (F : FH hr) (hn : 775 ≤ n) {f t : Int} (hf : 0 ≤ f ∧ f < 96) (ht : 0 ≤ t ∧ t < 96) (hne : f ≠ t)
    (k : ∀ h', Ef (fun a k => 720 ≤ a ∧ a ≤ 723 ∧ k = t.toNat) h h' → (∀ s, FcM h f s → FcM h' t s) → Q (none, h', hr, n)) : Sp E 258 [.ref 704, .int (J f), .int (J t)] h hr n Q := by
  have q : ∀ (x : Int32), gA (sA h 720 t x) 721 f = gA h 721 f := fun x => gs_o (by decide)
  have q2 : ∀ (x y : Int32), gA (sA (sA h 720 t x) 721 t y) 722 f = gA h 722 f := fun x y => by rw [gs_o (by decide), gs_o (by decide)]
  have q3 : ∀ (x y z : Int32), gA (sA (sA (sA h 720 t x) 721 t y) 722 t z) 723 f = gA h 723 f := fun x y z => by rw [gs_o (by decide), gs_o (by decide), gs_o (by decide)]
  simp +decide (maxSteps := 4000000) (disch := omega) only [k258_0, k258_r, k258_s, F_al0, T_getR, F_il2, F_il1, X_iald, T_iast, T_ret, FM F, ln_720, ln_721, ln_722, ln_723, q, q2, q3, TK, lt_run hn, le43, Int.le_refl, Int.lt_irrefl, Option.some.injEq, exists_eq_left', true_and, and_true, if_true, if_false, decide_eq_false_iff_not, decide_eq_true_eq, Nat.reduceAdd, Nat.reduceLeDiff, Nat.reduceLT, Int.reduceAdd, Int.reduceSub, Int.reduceMul, Int.reduceNeg, not_true_eq_false, not_false_eq_true]
  refine k _ ((((Ef.refl.sA (by omega)).sA (by omega)).sA (by omega)).sA (by omega)) (fun s c => ?_)
  unfold FcM
  rw [gs_o (by decide), gs_o (by decide), gs_o (by decide), gs_s, gs_o (by decide), gs_o (by decide), gs_s, gs_o (by decide), gs_s, gs_s]
  exact c
theorem z256 (F : FH hr) (hn : 775 ≤ n) {d s : Int} {D : Fils} (hd : 0 ≤ d ∧ d < 16) (R : FRr D) (hs : 0 ≤ s ∧ s < D.1) (M : FD h d D)
    (k : ∀ h', Ef (fun a k => Sfc d.toNat a k ∧ 720 ≤ a) h h' → (∀ i, 0 ≤ i → i < D.1 - 1 → FcM h' (6 * d + i) ((dropF D s).2 i)) → Tm E 256 (a_bl 256 3) [.ref 704, .int (J d), .int (J s), .int (J (D.1 - 1))] [] h' hr n Q) :
    Tm E 256 (a_bl 256 2) [.ref 704, .int (J d), .int (J s), .int (J s)] [] h hr n Q := by
  have r1 := R.1
  refine T_for (σ := Unit) (fun i _ => [.ref 704, .int (J d), .int (J s), .int (J i)]) (fun i _ h' => Ef (fun a k => Sfc d.toNat a k ∧ 720 ≤ a) h h' ∧ ∀ q, 0 ≤ q → q < D.1 → FcM h' (6 * d + q) (if s ≤ q ∧ q < i then D.2 (q + 1) else D.2 q)) s (D.1 - 1) ?_ ?_ s () h (by omega) (by omega) ⟨Ef.refl, fun q q1 q2 => ?_⟩
  · rintro i _ h' i0 i1 ⟨e, e1⟩ ih
    have q1 : gA h' 719 d = J D.1 := by
      rw [e.g (fun q => by omega)]
      exact M.1
    rw [k256_2]
    simp +decide (maxSteps := 4000000) (disch := omega) only [k256_0, k256_1, k256_3, k256_r, k256_s, F_al0, F_il1, F_il2, J_ifne, T_I, T_ret, F_is3i, F_is3r, F_is3m, T_ft, F_il3, T_getR, X_iald, T_sub, T_icge, T_mul, T_add, F_inc3i, F_inc3r, F_inc3m, T_goto, T_dup2, T_iast, c257, c258, ↓s257, FM F, ln_719, q1, show ¬ D.1 - 1 ≤ i by omega, TK, lt_run hn, le43, Int.le_refl, Int.lt_irrefl, Option.some.injEq, exists_eq_left', true_and, and_true, if_true, if_false, decide_eq_false_iff_not, decide_eq_true_eq, Nat.reduceAdd, Nat.reduceLeDiff, Nat.reduceLT, Int.reduceAdd, Int.reduceSub, Int.reduceMul, Int.reduceNeg, not_true_eq_false, not_false_eq_true]
    refine w258 F hn (by omega) (by omega) (by omega) (fun h2 e2 c2 => ?_)
    simp +decide (maxSteps := 4000000) (disch := omega) only [k256_0, k256_1, k256_3, k256_r, k256_s, F_al0, F_il1, F_il2, J_ifne, T_I, T_ret, F_is3i, F_is3r, F_is3m, T_ft, F_il3, T_getR, X_iald, T_sub, T_icge, T_mul, T_add, F_inc3i, F_inc3r, F_inc3m, T_goto, T_dup2, T_iast, c257, c258, ↓s257, TK, lt_run hn, le43, Int.le_refl, Int.lt_irrefl, Option.some.injEq, exists_eq_left', true_and, and_true, if_true, if_false, decide_eq_false_iff_not, decide_eq_true_eq, Nat.reduceAdd, Nat.reduceLeDiff, Nat.reduceLT, Int.reduceAdd, Int.reduceSub, Int.reduceMul, Int.reduceNeg, not_true_eq_false, not_false_eq_true]
    refine ih () _ ⟨e.trans (e2.mono fun x y q => ?_), fun q q1 q2 => ?_⟩
    · unfold Sfc
      omega
    · by_cases g : q = i
      · subst g
        have c3 := e1 (q + 1) (by omega) (by omega)
        rw [if_neg (by omega)] at c3
        rw [if_pos (by omega)]
        exact c2 (D.2 (q + 1)) (by rw [show 6 * d + q + 1 = 6 * d + (q + 1) by omega]; exact c3)
      · have c4 := (e1 q q1 q2).ef e2 (fun y h1 h2 q => by omega)
        by_cases g1 : s ≤ q ∧ q < i
        · rw [if_pos g1] at c4
          rw [if_pos (by omega)]
          exact c4
        · rw [if_neg g1] at c4
          rw [if_neg (by omega)]
          exact c4
  · rintro _ h' ⟨e, e1⟩
    have q1 : gA h' 719 d = J D.1 := by
      rw [e.g (fun q => by omega)]
      exact M.1
    rw [k256_2]
    simp +decide (maxSteps := 4000000) (disch := omega) only [k256_0, k256_1, k256_r, k256_s, F_al0, F_il1, F_il2, J_ifne, T_I, T_ret, F_is3i, F_is3r, F_is3m, T_ft, F_il3, T_getR, X_iald, T_sub, T_icge, T_mul, T_add, F_inc3i, F_inc3r, F_inc3m, T_goto, T_dup2, T_iast, c257, c258, ↓s257, FM F, ln_719, q1, TK, lt_run hn, le43, Int.le_refl, Int.lt_irrefl, Option.some.injEq, exists_eq_left', true_and, and_true, if_true, if_false, decide_eq_false_iff_not, decide_eq_true_eq, Nat.reduceAdd, Nat.reduceLeDiff, Nat.reduceLT, Int.reduceAdd, Int.reduceSub, Int.reduceMul, Int.reduceNeg, not_true_eq_false, not_false_eq_true]
    refine k h' e (fun i i0 i1 => ?_)
    have c3 := e1 i i0 (by omega)
    show FcM h' (6 * d + i) (if i < s then D.2 i else D.2 (i + 1))
    by_cases g : i < s
    · rw [if_pos g]
      rw [if_neg (by omega)] at c3
      exact c3
    · rw [if_neg g]
      rw [if_pos (by omega)] at c3
      exact c3
  · rw [if_neg (by omega)]
    exact M.2 q q1 q2
theorem dropF_r {D : Fils} (R : FRr D) {s : Int} (hs : 0 ≤ s ∧ s < D.1) : FRr (dropF D s) := by
  have r := R.1
  refine ⟨?_, fun i => ?_⟩
  · show 0 ≤ D.1 - 1 ∧ D.1 - 1 ≤ 6
    omega
  · show FR (if i < s then D.2 i else D.2 (i + 1))
    split
    · exact R.2 _
    · exact R.2 _
theorem Punfill (F : FH hr) (hn : 775 ≤ n) (C : Cp4 h) (x y : Int32) : Pr2 E 152 256 [.int x, .int y] h hr n (Po Cp4 4 4 h hr n) := by
  have C0 := C
  obtain ⟨D, C⟩ := C
  obtain ⟨a, ha, ha', rfl⟩ := J_of x
  obtain ⟨b, hb, hb', rfl⟩ := J_of y
  unfold Pr2
  by_cases g : (0 ≤ a ∧ a ≤ 15) ∧ 0 ≤ b ∧ b ≤ (D a).1 - 1
  case neg =>
    simp +decide (maxSteps := 4000000) (disch := omega) only [k152_0, k152_1, k152_r, k152_s, F_al0, F_il1, F_il2, J_ifne, T_I, T_ret, T_getR, X_aald, T_getI, c45, c153, FX F, ↓s153 F hn C.1 C.cc, ↓s257 F hn C.1 C.mc, g, TK, lt_run hn, le43, Int.le_refl, Int.lt_irrefl, Option.some.injEq, exists_eq_left', true_and, and_true, if_true, if_false, decide_eq_false_iff_not, decide_eq_true_eq, Nat.reduceAdd, Nat.reduceLeDiff, Nat.reduceLT, Int.reduceAdd, Int.reduceSub, Int.reduceMul, Int.reduceNeg, not_true_eq_false, not_false_eq_true]
    refine ⟨_, rfl, ?_⟩
    simp +decide (maxSteps := 4000000) (disch := omega) only [k256_0, k256_1, k256_3, k256_r, k256_s, F_al0, F_il1, F_il2, J_ifne, T_I, T_ret, F_is3i, F_is3r, F_is3m, T_ft, F_il3, T_getR, X_iald, T_sub, T_icge, T_mul, T_add, F_inc3i, F_inc3r, F_inc3m, T_goto, T_dup2, T_iast, c257, c258, FM F, ↓s153 F hn C.1 C.cc, ↓s257 F hn C.1 C.mc, g, TK, lt_run hn, le43, Int.le_refl, Int.lt_irrefl, Option.some.injEq, exists_eq_left', true_and, and_true, if_true, if_false, decide_eq_false_iff_not, decide_eq_true_eq, Nat.reduceAdd, Nat.reduceLeDiff, Nat.reduceLT, Int.reduceAdd, Int.reduceSub, Int.reduceMul, Int.reduceNeg, not_true_eq_false, not_false_eq_true]
    first | exact ⟨rfl, ⟨C0, Kp.refl⟩, rfl, rfl⟩ | exact ⟨⟨C0, Kp.refl⟩, rfl, rfl⟩ | exact ⟨C0, Kp.refl⟩
  obtain ⟨c, m⟩ := C.2 a g.1.1 (by omega)
  have r := C.1 a
  have r1 := r.1
  have x1 := X48 F g.1.1 (show a < 16 by omega)
  have B := DB_d g.1.1 (show a < 16 by omega)
  have x2 := B.x E F
  simp +decide (maxSteps := 4000000) (disch := omega) only [k152_0, k152_1, k152_r, k152_s, F_al0, F_il1, F_il2, J_ifne, T_I, T_ret, T_getR, X_aald, T_getI, c45, c153, FX F, ↓s153 F hn C.1 C.cc, g, x1, x2, kd_48, ln_48, TK, lt_run hn, le43, Int.le_refl, Int.lt_irrefl, Option.some.injEq, exists_eq_left', true_and, and_true, if_true, if_false, decide_eq_false_iff_not, decide_eq_true_eq, Nat.reduceAdd, Nat.reduceLeDiff, Nat.reduceLT, Int.reduceAdd, Int.reduceSub, Int.reduceMul, Int.reduceNeg, not_true_eq_false, not_false_eq_true]
  refine w45 F hn B r (by omega) c (fun h1 c1 e1 => ?_)
  have c2 := c1.1
  simp +decide (maxSteps := 4000000) (disch := omega) only [k152_0, k152_1, k152_r, k152_s, F_al0, F_il1, F_il2, J_ifne, T_I, T_ret, T_getR, X_aald, T_getI, c45, c153, ↓s153, FX F, x1, x2, kd_48, ln_48, c2, TK, lt_run hn, le43, Int.le_refl, Int.lt_irrefl, Option.some.injEq, exists_eq_left', true_and, and_true, if_true, if_false, decide_eq_false_iff_not, decide_eq_true_eq, Nat.reduceAdd, Nat.reduceLeDiff, Nat.reduceLT, Int.reduceAdd, Int.reduceSub, Int.reduceMul, Int.reduceNeg, not_true_eq_false, not_false_eq_true]
  refine ⟨_, rfl, ?_⟩
  have mc : ∀ d, 0 ≤ d → d < 16 → gA h1 719 d = J (D d).1 := fun d d1 d2 => by
    rw [e1.g (by omega)]
    exact C.mc d d1 d2
  simp +decide (maxSteps := 4000000) (disch := omega) only [k256_0, k256_1, k256_3, k256_r, k256_s, F_al0, F_il1, F_il2, J_ifne, T_I, T_ret, F_is3i, F_is3r, F_is3m, T_ft, F_il3, T_getR, X_iald, T_sub, T_icge, T_mul, T_add, F_inc3i, F_inc3r, F_inc3m, T_goto, T_dup2, T_iast, c257, c258, FM F, ↓s257 F hn C.1 mc, g, TK, lt_run hn, le43, Int.le_refl, Int.lt_irrefl, Option.some.injEq, exists_eq_left', true_and, and_true, if_true, if_false, decide_eq_false_iff_not, decide_eq_true_eq, Nat.reduceAdd, Nat.reduceLeDiff, Nat.reduceLT, Int.reduceAdd, Int.reduceSub, Int.reduceMul, Int.reduceNeg, not_true_eq_false, not_false_eq_true]
  refine z256 F hn (by omega) r (by omega) ⟨mc a (by omega) (by omega), fun s s1 s2 => (m.2 s s1 s2).ef e1 (fun y h1 h2 => by omega)⟩ (fun h2 e2 c3 => ?_)
  have q1 : gA h2 719 a = J (D a).1 := by
    rw [e2.g (fun q => by omega)]
    exact mc a (by omega) (by omega)
  simp +decide (maxSteps := 4000000) (disch := omega) only [k256_0, k256_1, k256_3, k256_r, k256_s, F_al0, F_il1, F_il2, J_ifne, T_I, T_ret, F_is3i, F_is3r, F_is3m, T_ft, F_il3, T_getR, X_iald, T_sub, T_icge, T_mul, T_add, F_inc3i, F_inc3r, F_inc3m, T_goto, T_dup2, T_iast, c257, c258, ↓s257, FM F, ln_719, q1, gs_s, TK, lt_run hn, le43, Int.le_refl, Int.lt_irrefl, Option.some.injEq, exists_eq_left', true_and, and_true, if_true, if_false, decide_eq_false_iff_not, decide_eq_true_eq, Nat.reduceAdd, Nat.reduceLeDiff, Nat.reduceLT, Int.reduceAdd, Int.reduceSub, Int.reduceMul, Int.reduceNeg, not_true_eq_false, not_false_eq_true]
  have e4 : Ef (fun x k => 719 ≤ x) h1 (sA h2 719 a (J ((D a).1 - 1))) := Ef.sA (e2.mono fun x k q => by omega) (Nat.le_refl _)
  have e3 : Ef (fun x k => Sfc a.toNat x k) h (sA h2 719 a (J ((D a).1 - 1))) := by
    refine Ef.sA (Ef.trans (e1.mono fun x k q => ?_) (e2.mono fun x k q => q.1)) (Or.inr (Or.inr (Or.inl ⟨rfl, rfl⟩)))
    unfold Sfc
    omega
  refine ⟨rfl, ⟨⟨_, C.upd g.1.1 (by omega) (D' := dropF (D a) b) (e3.mono fun x k q => Or.inl q) (dropF_r r (by omega)) ⟨?_, fun i i0 i1 => ?_⟩ ⟨?_, fun i i0 i1 => ?_⟩⟩, ?_⟩, rfl, rfl⟩
  · rw [e4 _ 5 (by omega)]
    exact c1.1
  · exact (c1.2 i i0 i1).ef e4 (fun y h1 h2 => by omega)
  · rw [gs_s]
    rfl
  · have i1' : i < (D a).1 - 1 := i1
    exact (c3 i i0 i1').ef (S := fun x k => x = 719) (Ef.refl.sA rfl) (fun y h1 h2 => by omega)
  · refine Kp.of e3 (fun x k q => Or.inr (Or.inl ?_))
    rcases q with ⟨rfl, rfl⟩ | q | ⟨rfl, _⟩ | q
    · exact sysF5 (by omega)
    · exact sysF (d := a.toNat) (by omega) (by omega) (by omega)
    · rfl
    · exact sysF7 (by omega) (by omega)
end FL
