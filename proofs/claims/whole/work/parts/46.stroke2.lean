/-! stroke: the loops, the call -/
section RT
variable {E : AEn} {h h' : AHi} {hr : AHr} {n : Nat} {Q : ARs → Prop} {t p f i w : Int} {b X Y : Int → Int} {S : Nat → Nat → Prop}
theorem TpC.ef (T : TpC h t b) (e : Ef S h h') (h1 : ¬ S 44 1) (h2 : ∀ k, ¬ S 45 k) : TpC h' t b := ⟨T.1, T.2.1, by rw [e 44 1 h1]; exact T.2.2.1, fun i i0 i1 => by rw [e.g (h2 _)]; exact T.2.2.2 i i0 i1⟩
theorem TpM.ef (T : TpM h t b) (e : Ef S h h') (h1 : ¬ S 704 3) (h2 : ∀ k, ¬ S 706 k) : TpM h' t b := ⟨T.1, T.2.1, by rw [e 704 3 h1]; exact T.2.2.1, fun i i0 i1 => by rw [e.g (h2 _)]; exact T.2.2.2 i i0 i1⟩
theorem upd_b {X : Int → Int} {m : Int} (h : ∀ j, 0 ≤ X j ∧ X j ≤ m) {v : Int} (hv : 0 ≤ v ∧ v ≤ m) (i : Int) : ∀ j, 0 ≤ upd1 X i v j ∧ upd1 X i v j ≤ m := fun j => by
  unfold upd1
  split
  · exact hv
  · exact h j
theorem e111 (F : FH hr) (hn : 775 ≤ n) {a : Nat} (A : SB a) (hp : 0 ≤ p ∧ p ≤ 1700) (hf : f = -1 ∨ 0 ≤ f ∧ f ≤ 1700) (hi : 0 ≤ i ∧ i ≤ 10) (c : h a 1 = J i) (v : Value) : Tm E 111 (a_bl 111 2) [.ref a, .ref 44, v] [] (RS h p f) hr n Q ↔ Q (none, RS h p (if i < 2 then rf f p else f), hr, n) := by
  have x1 := A.x E F
  have x2 := A.r
  have c1 : RS h p f a 1 = J i := by rw [RS_o (by omega)]; exact c
  by_cases g : i < 2
  · simp +decide (maxSteps := 4000000) (disch := omega) only [k111_0, k111_2, k111_3, k111_r, k111_s, F_al1, F_al0, T_I, T_putI, T_putZ, F_is2i, F_is2r, F_is2m, T_ft, F_il2, T_icgt, J_ifeq, F_inc2i, F_inc2r, F_inc2m, T_goto, T_getI, T_icge, T_ret, c13, c14, c18, c20, c112, ↓s13, ↓s14, ↓s20, x1, c1, RX, ↓s18 F hn, show ¬ 2 ≤ i by omega, g, kd_44, TK, lt_run hn, le43, Int.le_refl, Int.lt_irrefl, Option.some.injEq, exists_eq_left', true_and, and_true, if_true, if_false, decide_eq_false_iff_not, decide_eq_true_eq, Nat.reduceAdd, Nat.reduceLeDiff, Nat.reduceLT, Int.reduceAdd, Int.reduceSub, Int.reduceMul, Int.reduceNeg, not_true_eq_false, not_false_eq_true]
  · simp +decide (maxSteps := 4000000) (disch := omega) only [k111_0, k111_2, k111_3, k111_r, k111_s, F_al1, F_al0, T_I, T_putI, T_putZ, F_is2i, F_is2r, F_is2m, T_ft, F_il2, T_icgt, J_ifeq, F_inc2i, F_inc2r, F_inc2m, T_goto, T_getI, T_icge, T_ret, c13, c14, c18, c20, c112, ↓s13, ↓s14, ↓s20, x1, c1, RX, ↓s18 F hn, show 2 ≤ i by omega, g, kd_44, TK, lt_run hn, le43, Int.le_refl, Int.lt_irrefl, Option.some.injEq, exists_eq_left', true_and, and_true, if_true, if_false, decide_eq_false_iff_not, decide_eq_true_eq, Nat.reduceAdd, Nat.reduceLeDiff, Nat.reduceLT, Int.reduceAdd, Int.reduceSub, Int.reduceMul, Int.reduceNeg, not_true_eq_false, not_false_eq_true]
theorem z111 (F : FH hr) (hn : 775 ≤ n) {a : Nat} (A : SB a) (ht : 0 ≤ t ∧ t ≤ 1600) (hb : ∀ i, 0 ≤ b i ∧ b i ≤ 255) : ∀ (q : Nat) (i p : Int) (X Y : Int → Int) (h : AHi), (q : Int) = 11 - i → 0 ≤ i → i ≤ 10 → 0 ≤ p → p ≤ t + 1 → (∀ j, 0 ≤ X j ∧ X j ≤ 47) → (∀ j, 0 ≤ Y j ∧ Y j ≤ 31) → TpC h t b → Rp h a i X Y →
    (∀ h' p', 0 ≤ p' → p' ≤ 1700 → Ef (Sa a) h h' → h' a 0 = h a 0 → ((pts b t q i p X Y).1 = -1 ∨ 0 ≤ (pts b t q i p X Y).1 ∧ (pts b t q i p X Y).1 ≤ 1700) → ((pts b t q i p X Y).1 = -1 → (2 ≤ (pts b t q i p X Y).2.1 ∧ (pts b t q i p X Y).2.1 ≤ 10) ∧ (∀ j, 0 ≤ (pts b t q i p X Y).2.2.1 j ∧ (pts b t q i p X Y).2.2.1 j ≤ 47) ∧ (∀ j, 0 ≤ (pts b t q i p X Y).2.2.2 j ∧ (pts b t q i p X Y).2.2.2 j ≤ 31) ∧ Rp h' a (pts b t q i p X Y).2.1 (pts b t q i p X Y).2.2.1 (pts b t q i p X Y).2.2.2) → Q (none, RS h' p' (pts b t q i p X Y).1, hr, n)) →
    Tm E 111 (a_bl 111 1) [.ref a, .ref 44, .int (J i)] [] (RS h p (-1)) hr n Q := by
  intro q
  have x1 := A.x E F
  have x2 := A.r
  induction q with
  | zero => intro i p X Y h hq i0 i1; omega
  | succ q ih =>
    intro i p X Y h hq i0 i1 p0 p1 hX hY T R k
    have hbt := bt_r (t := t) hb p
    unfold pts at k
    by_cases g1 : p < t
    · rw [if_neg (by omega)] at k
      by_cases g2 : bt b t p = 32
      · rw [if_pos g2] at k
        rw [k111_1]
        simp +decide (maxSteps := 4000000) (disch := omega) only [k111_0, k111_3, k111_r, k111_s, F_al1, F_al0, T_I, T_putI, T_putZ, F_is2i, F_is2r, F_is2m, T_ft, F_il2, T_icgt, J_ifeq, F_inc2i, F_inc2r, F_inc2m, T_goto, T_getI, T_icge, T_ret, c13, c14, c18, c20, c112, ↓s13, ↓s14, ↓s18, RX, x1, ↓s20 F hn T, g1, g2, show ¬ 10 < i by omega, kd_44, TK, lt_run hn, le43, Int.le_refl, Int.lt_irrefl, Option.some.injEq, exists_eq_left', true_and, and_true, if_true, if_false, decide_eq_false_iff_not, decide_eq_true_eq, Nat.reduceAdd, Nat.reduceLeDiff, Nat.reduceLT, Int.reduceAdd, Int.reduceSub, Int.reduceMul, Int.reduceNeg, not_true_eq_false, not_false_eq_true]
        refine w112 F hn A T (by omega) (by omega) hX hY R (fun h1 e1 r1 c0 c1 => ?_)
        have rb := rpC_b (i := i) (X := X) (Y := Y) hb ht (p := p + 1) (by omega)
        have rr := rp_rel (i := i) (X := X) (Y := Y) hb ht (p := p + 1) (by omega)
        have T1 : TpC h1 t b := T.ef e1 (fun q => by unfold Sa at q; omega) (fun k q => by unfold Sa at q; omega)
        by_cases g3 : (rpC b t i X Y (p + 1)).2.2.2 = -1
        · rw [if_pos g3] at k
          obtain ⟨_, q1, q2, q3, q4, q5⟩ := rr.2 g3
          simp +decide (maxSteps := 4000000) (disch := omega) only [k111_0, k111_3, k111_r, k111_s, F_al1, F_al0, T_I, T_putI, T_putZ, F_is2i, F_is2r, F_is2m, T_ft, F_il2, T_icgt, J_ifeq, F_inc2i, F_inc2r, F_inc2m, T_goto, T_getI, T_icge, T_ret, c13, c14, c18, c20, c112, ↓s13, ↓s14, ↓s18, ↓s20, g3, TK, lt_run hn, le43, Int.le_refl, Int.lt_irrefl, Option.some.injEq, exists_eq_left', true_and, and_true, if_true, if_false, decide_eq_false_iff_not, decide_eq_true_eq, Nat.reduceAdd, Nat.reduceLeDiff, Nat.reduceLT, Int.reduceAdd, Int.reduceSub, Int.reduceMul, Int.reduceNeg, not_true_eq_false, not_false_eq_true]
          refine ih (i + 1) _ _ _ h1 (by omega) (by omega) (by omega) (by omega) (by omega) (upd_b hX q2 i) (upd_b hY q3 i) T1 (r1 (by omega)) (fun h2 p2 a1 a2 a3 a4 a5 a6 => k h2 p2 a1 a2 (e1.trans a3) (a4.trans c0) a5 a6)
        · rw [if_neg g3] at k
          dsimp only at k
          obtain ⟨i', i2, i3, c2⟩ := c1
          have fin := e111 (E := E) (Q := Q) F hn A (p := (rpC b t i X Y (p + 1)).2.2.1) (f := (rpC b t i X Y (p + 1)).2.2.2) (by omega) rb.2 ⟨i2, i3⟩ c2 (.int (J (i + 1)))
          have fe : (if i' < 2 then rf (rpC b t i X Y (p + 1)).2.2.2 (rpC b t i X Y (p + 1)).2.2.1 else (rpC b t i X Y (p + 1)).2.2.2) = (rpC b t i X Y (p + 1)).2.2.2 := by
            rw [rf_n g3]
            split <;> rfl
          rw [fe] at fin
          have kk := k h1 (rpC b t i X Y (p + 1)).2.2.1 (by omega) (by omega) e1 c0 rb.2 (fun q => absurd q g3)
          simp +decide (maxSteps := 4000000) (disch := omega) only [k111_0, k111_3, k111_r, k111_s, F_al1, F_al0, T_I, T_putI, T_putZ, F_is2i, F_is2r, F_is2m, T_ft, F_il2, T_icgt, J_ifeq, F_inc2i, F_inc2r, F_inc2m, T_goto, T_getI, T_icge, T_ret, c13, c14, c18, c20, c112, ↓s13, ↓s14, ↓s18, ↓s20, TK, lt_run hn, le43, Int.le_refl, Int.lt_irrefl, Option.some.injEq, exists_eq_left', true_and, and_true, if_true, if_false, decide_eq_false_iff_not, decide_eq_true_eq, Nat.reduceAdd, Nat.reduceLeDiff, Nat.reduceLT, Int.reduceAdd, Int.reduceSub, Int.reduceMul, Int.reduceNeg, not_true_eq_false, not_false_eq_true]
          by_cases g4 : 10 < i + 1
          · rw [k111_1]
            simp +decide (maxSteps := 4000000) (disch := omega) only [k111_0, k111_3, k111_r, k111_s, F_al1, F_al0, T_I, T_putI, T_putZ, F_is2i, F_is2r, F_is2m, T_ft, F_il2, T_icgt, J_ifeq, F_inc2i, F_inc2r, F_inc2m, T_goto, T_getI, T_icge, T_ret, c13, c14, c18, c20, c112, ↓s13, ↓s14, ↓s18, ↓s20, g4, TK, lt_run hn, le43, Int.le_refl, Int.lt_irrefl, Option.some.injEq, exists_eq_left', true_and, and_true, if_true, if_false, decide_eq_false_iff_not, decide_eq_true_eq, Nat.reduceAdd, Nat.reduceLeDiff, Nat.reduceLT, Int.reduceAdd, Int.reduceSub, Int.reduceMul, Int.reduceNeg, not_true_eq_false, not_false_eq_true]
            exact fin.mpr kk
          · rw [k111_1]
            simp +decide (maxSteps := 4000000) (disch := omega) only [k111_0, k111_3, k111_r, k111_s, F_al1, F_al0, T_I, T_putI, T_putZ, F_is2i, F_is2r, F_is2m, T_ft, F_il2, T_icgt, J_ifeq, F_inc2i, F_inc2r, F_inc2m, T_goto, T_getI, T_icge, T_ret, c13, c14, c18, c20, c112, ↓s13, ↓s14, ↓s18, RX, x1, ↓s20 F hn T1, g3, g4, kd_44, TK, lt_run hn, le43, Int.le_refl, Int.lt_irrefl, Option.some.injEq, exists_eq_left', true_and, and_true, if_true, if_false, decide_eq_false_iff_not, decide_eq_true_eq, Nat.reduceAdd, Nat.reduceLeDiff, Nat.reduceLT, Int.reduceAdd, Int.reduceSub, Int.reduceMul, Int.reduceNeg, not_true_eq_false, not_false_eq_true]
            exact fin.mpr kk
      · rw [if_neg g2] at k
        dsimp only at k
        rw [k111_1]
        simp +decide (maxSteps := 4000000) (disch := omega) only [k111_0, k111_3, k111_r, k111_s, F_al1, F_al0, T_I, T_putI, T_putZ, F_is2i, F_is2r, F_is2m, T_ft, F_il2, T_icgt, J_ifeq, F_inc2i, F_inc2r, F_inc2m, T_goto, T_getI, T_icge, T_ret, c13, c14, c18, c20, c112, ↓s13, ↓s14, ↓s18, RX, x1, ↓s20 F hn T, g1, g2, show ¬ 10 < i by omega, kd_44, TK, lt_run hn, le43, Int.le_refl, Int.lt_irrefl, Option.some.injEq, exists_eq_left', true_and, and_true, if_true, if_false, decide_eq_false_iff_not, decide_eq_true_eq, Nat.reduceAdd, Nat.reduceLeDiff, Nat.reduceLT, Int.reduceAdd, Int.reduceSub, Int.reduceMul, Int.reduceNeg, not_true_eq_false, not_false_eq_true]
        rw [e111 F hn A (by omega) (by omega) ⟨i0, i1⟩ R.1]
        rw [show (if i < 2 then rf p p else p) = p by rw [rf_n (by omega)]; split <;> rfl]
        exact k h p (by omega) (by omega) Ef.refl rfl (by omega) (fun q => by omega)
    · have g2 : ¬ bt b t p = 32 := fun q => by
        have := bt_in (b := b) (t := t) (i := p) (by omega)
        omega
      rw [k111_1]
      simp +decide (maxSteps := 4000000) (disch := omega) only [k111_0, k111_3, k111_r, k111_s, F_al1, F_al0, T_I, T_putI, T_putZ, F_is2i, F_is2r, F_is2m, T_ft, F_il2, T_icgt, J_ifeq, F_inc2i, F_inc2r, F_inc2m, T_goto, T_getI, T_icge, T_ret, c13, c14, c18, c20, c112, ↓s13, ↓s14, ↓s18, RX, x1, ↓s20 F hn T, g1, show ¬ 10 < i by omega, kd_44, TK, lt_run hn, le43, Int.le_refl, Int.lt_irrefl, Option.some.injEq, exists_eq_left', true_and, and_true, if_true, if_false, decide_eq_false_iff_not, decide_eq_true_eq, Nat.reduceAdd, Nat.reduceLeDiff, Nat.reduceLT, Int.reduceAdd, Int.reduceSub, Int.reduceMul, Int.reduceNeg, not_true_eq_false, not_false_eq_true]
      rw [e111 F hn A (by omega) (by omega) ⟨i0, i1⟩ R.1]
      by_cases g3 : 2 ≤ i
      · rw [if_pos (by omega)] at k
        rw [if_neg (by omega)]
        exact k h p (by omega) (by omega) Ef.refl rfl (Or.inl rfl) (fun _ => ⟨⟨g3, i1⟩, hX, hY, R⟩)
      · rw [if_neg (by omega), if_neg g2] at k
        rw [if_pos (by omega), rf_y]
        exact k h p (by omega) (by omega) Ef.refl rfl (by dsimp only; omega) (fun q => by dsimp only at q; omega)
/-- the reference's points -/
def Rm (h : AHi) (i : Int) (X Y : Int → Int) : Prop := h 704 15 = J i ∧ ∀ j, 0 ≤ j → j < i → gA h 713 j = J (X j) ∧ gA h 714 j = J (Y j)
def Sn (a k : Nat) : Prop := (a = 704 ∧ k = 15) ∨ a = 713 ∨ a = 714
theorem xp_f {c : Int} (e : f ≠ -1) : xp b t c p f = p := if_neg (fun q => e q.1)
theorem xf_f {c : Int} (e : f ≠ -1) : xf b t c p f = f := by unfold xf; rw [if_neg (fun q => e q.1), rf_n e]
theorem numM_b (hb : ∀ i, 0 ≤ b i ∧ b i ≤ 255) (ht : 0 ≤ t ∧ t ≤ 1600) (bl : Bool) {lo hi : Int} (hl : -1000000000 ≤ lo ∧ lo < 1000000000) (hp : 0 ≤ p ∧ p ≤ 1690) (hf : f = -1 ∨ 0 ≤ f ∧ f ≤ 1700) : (p ≤ (numM b t bl lo hi p f).2.1 ∧ ((numM b t bl lo hi p f).2.1 ≤ t ∨ (numM b t bl lo hi p f).2.1 ≤ p + 1)) ∧ ((numM b t bl lo hi p f).2.2 = -1 ∨ 0 ≤ (numM b t bl lo hi p f).2.2 ∧ (numM b t bl lo hi p f).2.2 ≤ 1700) ∧ -1000000000 ≤ (numM b t bl lo hi p f).1 ∧ (numM b t bl lo hi p f).1 < 1000000000 := by
  unfold numM
  by_cases e : f = -1
  · rw [if_pos e]
    dsimp only
    have ha : ∀ m : Bool, p ≤ (if m = true then p + 1 else p) ∧ (if m = true then p + 1 else p) ≤ p + 1 := fun m => by cases m <;> simp <;> omega
    generalize (bl && decide (bt b t p = 45)) = mi
    have h1 := ha mi
    generalize (if mi = true then p + 1 else p) = a1 at h1 ⊢
    have hg := dgs_b (t := t) hb 10 0 0 a1 (-1) (by omega) (by decide) (by omega)
    generalize dgs b t 10 0 0 a1 (-1) = g at hg ⊢
    have hv : -1000000000 < (if mi = true then -g.1 else g.1) ∧ (if mi = true then -g.1 else g.1) < 1000000000 := by split <;> omega
    generalize (if mi = true then -g.1 else g.1) = v at hv ⊢
    repeat' split
    all_goals
      dsimp only
      omega
  · rw [if_neg e]
    dsimp only
    omega
theorem x220 (F : FH hr) (hn : 775 ≤ n) (T : TpM h t b) (ha : 0 ≤ p ∧ p ≤ 9999) (hw : w = -1 ∨ 0 ≤ w ∧ w ≤ 10000) {lo hi : Int} (hl : -1000000000 ≤ lo ∧ lo ≤ 1000000000) (hh : -1000000000 ≤ hi ∧ hi ≤ 1000000000) : Sp E 220 [.ref 704, .int (J 0), .int (J lo), .int (J hi)] (MS h p w) hr n Q ↔ Q (some (.int (J (numM b t false lo hi p w).1)), MS h (numM b t false lo hi p w).2.1 (numM b t false lo hi p w).2.2, hr, n) := s220 (bl := false) F hn T ha hw hl hh
theorem y220 (F : FH hr) (hn : 775 ≤ n) (T : TpM h t b) (ha : 0 ≤ p ∧ p ≤ 9999) (hw : w = -1 ∨ 0 ≤ w ∧ w ≤ 10000) {lo hi : Int} (hl : -1000000000 ≤ lo ∧ lo ≤ 1000000000) (hh : -1000000000 ≤ hi ∧ hi ≤ 1000000000) : Sp E 220 [.ref 704, .int (J 1), .int (J lo), .int (J hi)] (MS h p w) hr n Q ↔ Q (some (.int (J (numM b t true lo hi p w).1)), MS h (numM b t true lo hi p w).2.1 (numM b t true lo hi p w).2.2, hr, n) := s220 (bl := true) F hn T ha hw hl hh
theorem z216 (F : FH hr) (hn : 775 ≤ n) {v1 : Value} {c2 : Int32} (ht : 0 ≤ t ∧ t ≤ 1600) (hb : ∀ i, 0 ≤ b i ∧ b i ≤ 255) : ∀ (q : Nat) (i p : Int) (X Y : Int → Int) (h : AHi) (v3 v4 v5 : Value), (q : Int) = 11 - i → 0 ≤ i → i ≤ 10 → 0 ≤ p → p ≤ t + 1 → (∀ j, 0 ≤ X j ∧ X j ≤ 47) → (∀ j, 0 ≤ Y j ∧ Y j ≤ 31) → TpM h t b → Rm h i X Y →
    (∀ h' p' v3' v4' v5', 0 ≤ p' → p' ≤ 1700 → Ef Sn h h' → ((pts b t q i p X Y).1 = -1 → Rm h' (pts b t q i p X Y).2.1 (pts b t q i p X Y).2.2.1 (pts b t q i p X Y).2.2.2) → Tm E 216 (a_bl 216 7) [.ref 704, v1, .int c2, v3', v4', v5'] [] (MS h' p' (pts b t q i p X Y).1) hr n Q) →
    Tm E 216 (a_bl 216 2) [.ref 704, v1, .int c2, v3, v4, v5] [] (MS h p (-1)) hr n Q := by
  intro q
  induction q with
  | zero => intro i p X Y h v3 v4 v5 hq i0 i1; omega
  | succ q ih =>
    intro i p X Y h v3 v4 v5 hq i0 i1 p0 p1 hX hY T R k
    have c1 : MS h p (-1) 704 15 = J i := by rw [MS_j (by decide)]; exact R.1
    have t2 := T.2.2.1
    unfold pts at k
    by_cases g0 : 2 ≤ i ∧ t ≤ p
    · rw [if_pos g0] at k
      rw [k216_2]
      simp +decide (maxSteps := 4000000) (disch := omega) only [k216_0, k216_1, k216_3, k216_4, k216_5, k216_6, k216_8, k216_9, k216_r, k216_s, F_al0, F_il1, J_ifne, T_I, T_ret, F_is2i, F_is2r, F_is2m, T_putI, T_putZ, T_ft, J_ifeq, T_getI, T_iclt, T_icge, F_is3i, F_is3r, F_is3m, J_icne, F_is4i, F_is4r, F_is4m, F_is5i, F_is5r, F_is5m, J_ifle, T_getR, T_sub, X_iald, F_il4, F_il5, F_il3, T_iast, T_dupI, T_dupR, T_add, T_goto, F_il2, T_dup2, c217, c218, c220, c221, c224, c225, c226, c227, ↓s218, ↓s224, ↓s225, ↓s226, FM F, MX, ↓s221 F hn, c1, t2, show ¬ i < 2 by omega, show t ≤ p by omega, TK, lt_run hn, le43, Int.le_refl, Int.lt_irrefl, Option.some.injEq, exists_eq_left', true_and, and_true, if_true, if_false, decide_eq_false_iff_not, decide_eq_true_eq, Nat.reduceAdd, Nat.reduceLeDiff, Nat.reduceLT, Int.reduceAdd, Int.reduceSub, Int.reduceMul, Int.reduceNeg, not_true_eq_false, not_false_eq_true]
      exact k h p _ _ _ (by omega) (by omega) Ef.refl (fun _ => R)
    · rw [if_neg g0] at k
      have enter : Tm E 216 (a_bl 216 3) [.ref 704, v1, .int c2, v3, v4, v5] [] (MS h p (-1)) hr n Q → Tm E 216 (a_bl 216 2) [.ref 704, v1, .int c2, v3, v4, v5] [] (MS h p (-1)) hr n Q := fun q => by
        by_cases g1 : i < 2
        · rw [k216_2]
          simp +decide (maxSteps := 4000000) (disch := omega) only [k216_0, k216_1, k216_4, k216_5, k216_6, k216_8, k216_9, k216_r, k216_s, F_al0, F_il1, J_ifne, T_I, T_ret, F_is2i, F_is2r, F_is2m, T_putI, T_putZ, T_ft, J_ifeq, T_getI, T_iclt, T_icge, F_is3i, F_is3r, F_is3m, J_icne, F_is4i, F_is4r, F_is4m, F_is5i, F_is5r, F_is5m, J_ifle, T_getR, T_sub, X_iald, F_il4, F_il5, F_il3, T_iast, T_dupI, T_dupR, T_add, T_goto, F_il2, T_dup2, c217, c218, c220, c221, c224, c225, c226, c227, ↓s218, ↓s224, ↓s225, ↓s226, FM F, MX, ↓s221 F hn, c1, t2, g1, TK, lt_run hn, le43, Int.le_refl, Int.lt_irrefl, Option.some.injEq, exists_eq_left', true_and, and_true, if_true, if_false, decide_eq_false_iff_not, decide_eq_true_eq, Nat.reduceAdd, Nat.reduceLeDiff, Nat.reduceLT, Int.reduceAdd, Int.reduceSub, Int.reduceMul, Int.reduceNeg, not_true_eq_false, not_false_eq_true]
          exact q
        · rw [k216_2]
          simp +decide (maxSteps := 4000000) (disch := omega) only [k216_0, k216_1, k216_4, k216_5, k216_6, k216_8, k216_9, k216_r, k216_s, F_al0, F_il1, J_ifne, T_I, T_ret, F_is2i, F_is2r, F_is2m, T_putI, T_putZ, T_ft, J_ifeq, T_getI, T_iclt, T_icge, F_is3i, F_is3r, F_is3m, J_icne, F_is4i, F_is4r, F_is4m, F_is5i, F_is5r, F_is5m, J_ifle, T_getR, T_sub, X_iald, F_il4, F_il5, F_il3, T_iast, T_dupI, T_dupR, T_add, T_goto, F_il2, T_dup2, c217, c218, c220, c221, c224, c225, c226, c227, ↓s218, ↓s224, ↓s225, ↓s226, FM F, MX, ↓s221 F hn, c1, t2, g1, show ¬ t ≤ p by omega, TK, lt_run hn, le43, Int.le_refl, Int.lt_irrefl, Option.some.injEq, exists_eq_left', true_and, and_true, if_true, if_false, decide_eq_false_iff_not, decide_eq_true_eq, Nat.reduceAdd, Nat.reduceLeDiff, Nat.reduceLT, Int.reduceAdd, Int.reduceSub, Int.reduceMul, Int.reduceNeg, not_true_eq_false, not_false_eq_true]
          exact q
      refine enter ?_
      rw [k216_3]
      simp +decide (maxSteps := 4000000) (disch := omega) only [k216_0, k216_1, k216_3, k216_6, k216_7, k216_8, k216_9, k216_r, k216_s, F_al0, F_il1, J_ifne, T_I, T_ret, F_is2i, F_is2r, F_is2m, T_putI, T_putZ, T_ft, J_ifeq, T_getI, T_iclt, T_icge, F_is3i, F_is3r, F_is3m, J_icne, F_is4i, F_is4r, F_is4m, F_is5i, F_is5r, F_is5m, J_ifle, T_getR, T_sub, X_iald, F_il4, F_il5, F_il3, T_iast, T_dupI, T_dupR, T_add, T_goto, F_il2, T_dup2, c217, c218, c220, c221, c224, c225, c226, c227, ↓s218, ↓s226, TK, lt_run hn, le43, Int.le_refl, Int.lt_irrefl, Option.some.injEq, exists_eq_left', true_and, and_true, if_true, if_false, decide_eq_false_iff_not, decide_eq_true_eq, Nat.reduceAdd, Nat.reduceLeDiff, Nat.reduceLT, Int.reduceAdd, Int.reduceSub, Int.reduceMul, Int.reduceNeg, not_true_eq_false, not_false_eq_true]
      rw [x225 F hn T (by omega) (by decide) (by decide)]
      by_cases g2 : bt b t p = 32
      · rw [if_pos g2] at k
        have hin := bt_in (b := b) (t := t) (i := p) (by omega)
        rw [show xp b t 32 p (-1) = p + 1 from if_pos ⟨rfl, g2⟩, show xf b t 32 p (-1) = -1 from if_pos ⟨rfl, g2⟩]
        have rb := rpC_b (i := i) (X := X) (Y := Y) hb ht (p := p + 1) (by omega)
        have rr := rp_rel (i := i) (X := X) (Y := Y) hb ht (p := p + 1) (by omega)
        have start : ∀ w1, w1 = (if i = 10 then p + 1 else -1) → Tm E 216 (a_bl 216 4) [.ref 704, v1, .int c2, .int (J (p + 1)), v4, v5] [] (MS h (p + 1) w1) hr n Q := fun w1 hw1 => by
          have hw : w1 = -1 ∨ 0 ≤ w1 ∧ w1 ≤ 1700 := by rw [hw1]; split <;> omega
          have em : rpM b t i X Y (p + 1) = ((numM b t false 0 47 (p + 1) w1).1, (numM b t false 0 31 (xp b t 44 (numM b t false 0 47 (p + 1) w1).2.1 (numM b t false 0 47 (p + 1) w1).2.2) (xf b t 44 (numM b t false 0 47 (p + 1) w1).2.1 (numM b t false 0 47 (p + 1) w1).2.2)).1, (numM b t false 0 31 (xp b t 44 (numM b t false 0 47 (p + 1) w1).2.1 (numM b t false 0 47 (p + 1) w1).2.2) (xf b t 44 (numM b t false 0 47 (p + 1) w1).2.1 (numM b t false 0 47 (p + 1) w1).2.2)).2.1, if (numM b t false 0 31 (xp b t 44 (numM b t false 0 47 (p + 1) w1).2.1 (numM b t false 0 47 (p + 1) w1).2.2) (xf b t 44 (numM b t false 0 47 (p + 1) w1).2.1 (numM b t false 0 47 (p + 1) w1).2.2)).2.2 = -1 ∧ 0 < i ∧ X (i - 1) = (numM b t false 0 47 (p + 1) w1).1 ∧ Y (i - 1) = (numM b t false 0 31 (xp b t 44 (numM b t false 0 47 (p + 1) w1).2.1 (numM b t false 0 47 (p + 1) w1).2.2) (xf b t 44 (numM b t false 0 47 (p + 1) w1).2.1 (numM b t false 0 47 (p + 1) w1).2.2)).1 then p + 1 else (numM b t false 0 31 (xp b t 44 (numM b t false 0 47 (p + 1) w1).2.1 (numM b t false 0 47 (p + 1) w1).2.2) (xf b t 44 (numM b t false 0 47 (p + 1) w1).2.1 (numM b t false 0 47 (p + 1) w1).2.2)).2.2) := by
            unfold rpM
            rw [← hw1]
          have nb := numM_b (t := t) (f := w1) hb ht false (lo := 0) (hi := 47) (by decide) (p := p + 1) (by omega) hw
          rw [k216_4]
          simp +decide (maxSteps := 4000000) (disch := omega) only [k216_0, k216_1, k216_3, k216_4, k216_6, k216_7, k216_8, k216_9, k216_r, k216_s, F_al0, F_il1, J_ifne, T_I, T_ret, F_is2i, F_is2r, F_is2m, T_putI, T_putZ, T_ft, J_ifeq, T_getI, T_iclt, T_icge, F_is3i, F_is3r, F_is3m, J_icne, F_is4i, F_is4r, F_is4m, F_is5i, F_is5r, F_is5m, J_ifle, T_getR, T_sub, X_iald, F_il4, F_il5, F_il3, T_iast, T_dupI, T_dupR, T_add, T_goto, F_il2, T_dup2, c217, c218, c220, c221, c224, c225, c226, c227, ↓s218, ↓s224, ↓s226, x220 F hn T, TK, lt_run hn, le43, Int.le_refl, Int.lt_irrefl, Option.some.injEq, exists_eq_left', true_and, and_true, if_true, if_false, decide_eq_false_iff_not, decide_eq_true_eq, Nat.reduceAdd, Nat.reduceLeDiff, Nat.reduceLT, Int.reduceAdd, Int.reduceSub, Int.reduceMul, Int.reduceNeg, not_true_eq_false, not_false_eq_true]
          generalize numM b t false 0 47 (p + 1) w1 = nx at nb em ⊢
          rw [x225 F hn T (by omega) (by omega) (by decide)]
          have x1' := x_b (b := b) (t := t) (f := nx.2.2) (p := nx.2.1) (c := 44) (by decide) (by omega)
          have hf2 : xf b t 44 nx.2.1 nx.2.2 = -1 ∨ 0 ≤ xf b t 44 nx.2.1 nx.2.2 ∧ xf b t 44 nx.2.1 nx.2.2 ≤ 1700 := by
            by_cases q : nx.2.2 = -1
            · have := x1'.2.2.2.2 q
              omega
            · have := x1'.2.2.2.1 q
              omega
          have nb2 := numM_b (t := t) (f := xf b t 44 nx.2.1 nx.2.2) hb ht false (lo := 0) (hi := 31) (by decide) (p := xp b t 44 nx.2.1 nx.2.2) (by omega) hf2
          simp +decide (maxSteps := 4000000) (disch := omega) only [k216_0, k216_1, k216_3, k216_4, k216_6, k216_7, k216_8, k216_9, k216_r, k216_s, F_al0, F_il1, J_ifne, T_I, T_ret, F_is2i, F_is2r, F_is2m, T_putI, T_putZ, T_ft, J_ifeq, T_getI, T_iclt, T_icge, F_is3i, F_is3r, F_is3m, J_icne, F_is4i, F_is4r, F_is4m, F_is5i, F_is5r, F_is5m, J_ifle, T_getR, T_sub, X_iald, F_il4, F_il5, F_il3, T_iast, T_dupI, T_dupR, T_add, T_goto, F_il2, T_dup2, c217, c218, c220, c221, c224, c225, c226, c227, ↓s218, ↓s224, ↓s226, x220 F hn T, TK, lt_run hn, le43, Int.le_refl, Int.lt_irrefl, Option.some.injEq, exists_eq_left', true_and, and_true, if_true, if_false, decide_eq_false_iff_not, decide_eq_true_eq, Nat.reduceAdd, Nat.reduceLeDiff, Nat.reduceLT, Int.reduceAdd, Int.reduceSub, Int.reduceMul, Int.reduceNeg, not_true_eq_false, not_false_eq_true]
          generalize numM b t false 0 31 (xp b t 44 nx.2.1 nx.2.2) (xf b t 44 nx.2.1 nx.2.2) = ny at nb2 em ⊢
          have fin : ∀ w5, w5 = (rpM b t i X Y (p + 1)).2.2.2 → Tm E 216 (a_bl 216 5) [.ref 704, v1, .int c2, .int (J (p + 1)), .int (J nx.1), .int (J ny.1)] [] (MS h ny.2.1 w5) hr n Q := fun w5 hw5 => by
            have hw5' : w5 = (rpC b t i X Y (p + 1)).2.2.2 := hw5.trans rr.1
            have cc : MS h ny.2.1 w5 704 15 = J i := by rw [MS_j (by decide)]; exact R.1
            by_cases g3 : (rpC b t i X Y (p + 1)).2.2.2 = -1
            · rw [if_pos g3] at k
              obtain ⟨q0, q1, q2, q3, q4, q5⟩ := rr.2 g3
              rw [g3] at hw5'
              subst hw5'
              have en : nx.1 = (rpC b t i X Y (p + 1)).1 := by rw [← q0, em]
              have en2 : ny.1 = (rpC b t i X Y (p + 1)).2.1 := by rw [← q0, em]
              have en3 : ny.2.1 = (rpC b t i X Y (p + 1)).2.2.1 := by rw [← q0, em]
              have c3 : sA (MS h ny.2.1 (-1)) 713 i (J nx.1) 704 15 = J i := by rw [sA_o (by decide)]; exact cc
              have c4 : sA (sA (MS h ny.2.1 (-1)) 713 i (J nx.1)) 714 i (J ny.1) 704 15 = J i := by rw [sA_o (by decide)]; exact c3
              rw [k216_5]
              simp +decide (maxSteps := 4000000) (disch := omega) only [k216_0, k216_1, k216_3, k216_4, k216_5, k216_6, k216_7, k216_8, k216_9, k216_r, k216_s, F_al0, F_il1, J_ifne, T_I, T_ret, F_is2i, F_is2r, F_is2m, T_putI, T_putZ, T_ft, J_ifeq, T_getI, T_iclt, T_icge, F_is3i, F_is3r, F_is3m, J_icne, F_is4i, F_is4r, F_is4m, F_is5i, F_is5r, F_is5m, J_ifle, T_getR, T_sub, X_iald, F_il4, F_il5, F_il3, T_iast, T_dupI, T_dupR, T_add, T_goto, F_il2, T_dup2, c217, c218, c220, c221, c224, c225, c226, c227, ↓s218, ↓s224, ↓s226, FM F, MX, ↓s221 F hn, cc, c3, c4, ln_713, ln_714, TK, lt_run hn, le43, Int.le_refl, Int.lt_irrefl, Option.some.injEq, exists_eq_left', true_and, and_true, if_true, if_false, decide_eq_false_iff_not, decide_eq_true_eq, Nat.reduceAdd, Nat.reduceLeDiff, Nat.reduceLT, Int.reduceAdd, Int.reduceSub, Int.reduceMul, Int.reduceNeg, not_true_eq_false, not_false_eq_true]
              rw [MS_d (by decide), MS_d (by decide), MS_f (by decide), en3]
              refine ih (i + 1) _ _ _ _ _ _ _ (by omega) (by omega) (by omega) (by omega) (by omega) (upd_b hX q2 i) (upd_b hY q3 i) (T.ef (S := Sn) (Ef.hI (Ef.sA (Ef.sA Ef.refl (Or.inr (Or.inl rfl))) (Or.inr (Or.inr rfl))) (Or.inl ⟨rfl, rfl⟩)) (fun q => by unfold Sn at q; omega) (fun k q => by unfold Sn at q; omega)) ⟨hI_s, fun j j0 j1 => ?_⟩ (fun h2 p2 u3 u4 u5 a1 a2 a3 a6 => k h2 p2 u3 u4 u5 a1 a2 (Ef.trans (Ef.hI (Ef.sA (Ef.sA Ef.refl (Or.inr (Or.inl rfl))) (Or.inr (Or.inr rfl))) (Or.inl ⟨rfl, rfl⟩)) a3) a6)
              unfold upd1
              rw [gA_o (by decide), gA_o (by decide), gs_o (by decide)]
              by_cases e : j = i
              · subst e
                rw [gs_s, gs_s, if_pos rfl, if_pos rfl, en, en2]
                exact ⟨rfl, rfl⟩
              · rw [gs_k i0 j0 e, gs_k i0 j0 e, gs_o (by decide), if_neg e, if_neg e]
                exact R.2 j j0 (by omega)
            · rw [if_neg g3] at k
              rw [← hw5'] at g3 k
              rw [k216_5]
              simp +decide (maxSteps := 4000000) (disch := omega) only [k216_0, k216_1, k216_3, k216_4, k216_5, k216_6, k216_7, k216_8, k216_9, k216_r, k216_s, F_al0, F_il1, J_ifne, T_I, T_ret, F_is2i, F_is2r, F_is2m, T_putI, T_putZ, T_ft, J_ifeq, T_getI, T_iclt, T_icge, F_is3i, F_is3r, F_is3m, J_icne, F_is4i, F_is4r, F_is4m, F_is5i, F_is5r, F_is5m, J_ifle, T_getR, T_sub, X_iald, F_il4, F_il5, F_il3, T_iast, T_dupI, T_dupR, T_add, T_goto, F_il2, T_dup2, c217, c218, c220, c221, c224, c225, c226, c227, ↓s218, ↓s224, ↓s226, FM F, MX, ↓s221 F hn, g3, TK, lt_run hn, le43, Int.le_refl, Int.lt_irrefl, Option.some.injEq, exists_eq_left', true_and, and_true, if_true, if_false, decide_eq_false_iff_not, decide_eq_true_eq, Nat.reduceAdd, Nat.reduceLeDiff, Nat.reduceLT, Int.reduceAdd, Int.reduceSub, Int.reduceMul, Int.reduceNeg, not_true_eq_false, not_false_eq_true]
              rw [k216_2]
              simp +decide (maxSteps := 4000000) (disch := omega) only [k216_0, k216_1, k216_3, k216_4, k216_5, k216_6, k216_8, k216_9, k216_r, k216_s, F_al0, F_il1, J_ifne, T_I, T_ret, F_is2i, F_is2r, F_is2m, T_putI, T_putZ, T_ft, J_ifeq, T_getI, T_iclt, T_icge, F_is3i, F_is3r, F_is3m, J_icne, F_is4i, F_is4r, F_is4m, F_is5i, F_is5r, F_is5m, J_ifle, T_getR, T_sub, X_iald, F_il4, F_il5, F_il3, T_iast, T_dupI, T_dupR, T_add, T_goto, F_il2, T_dup2, c217, c218, c220, c221, c224, c225, c226, c227, ↓s218, ↓s224, ↓s226, FM F, MX, ↓s221 F hn, g3, TK, lt_run hn, le43, Int.le_refl, Int.lt_irrefl, Option.some.injEq, exists_eq_left', true_and, and_true, if_true, if_false, decide_eq_false_iff_not, decide_eq_true_eq, Nat.reduceAdd, Nat.reduceLeDiff, Nat.reduceLT, Int.reduceAdd, Int.reduceSub, Int.reduceMul, Int.reduceNeg, not_true_eq_false, not_false_eq_true]
              exact k h _ _ _ _ (by omega) (by omega) Ef.refl (fun q => absurd q g3)
          have ef : (rpM b t i X Y (p + 1)).2.2.2 = if ny.2.2 = -1 ∧ 0 < i ∧ X (i - 1) = nx.1 ∧ Y (i - 1) = ny.1 then p + 1 else ny.2.2 := by rw [em]
          have c5 : MS h ny.2.1 ny.2.2 704 15 = J i := by rw [MS_j (by decide)]; exact R.1
          by_cases g5 : ny.2.2 = -1
          · by_cases g : 0 < i
            · have r1 := R.2 (i - 1) (by omega) (by omega)
              have r2 : gA (MS h ny.2.1 ny.2.2) 713 (i - 1) = J (X (i - 1)) := by rw [MS_g (by decide)]; exact r1.1
              have r3 : gA (MS h ny.2.1 ny.2.2) 714 (i - 1) = J (Y (i - 1)) := by rw [MS_g (by decide)]; exact r1.2
              have bx := hX (i - 1)
              have bY := hY (i - 1)
              rw [g5] at c5 r2 r3 ef ⊢
              by_cases g6 : X (i - 1) = nx.1
              · by_cases g7 : Y (i - 1) = ny.1
                · simp +decide (maxSteps := 4000000) (disch := omega) only [k216_0, k216_1, k216_3, k216_4, k216_6, k216_7, k216_8, k216_9, k216_r, k216_s, F_al0, F_il1, J_ifne, T_I, T_ret, F_is2i, F_is2r, F_is2m, T_putI, T_putZ, T_ft, J_ifeq, T_getI, T_iclt, T_icge, F_is3i, F_is3r, F_is3m, J_icne, F_is4i, F_is4r, F_is4m, F_is5i, F_is5r, F_is5m, J_ifle, T_getR, T_sub, X_iald, F_il4, F_il5, F_il3, T_iast, T_dupI, T_dupR, T_add, T_goto, F_il2, T_dup2, c217, c218, c220, c221, c224, c225, c226, c227, ↓s218, ↓s226, FM F, MX, ↓s221 F hn, ↓s224 F hn, rf_y, c5, r2, r3, g6, g7, ln_713, ln_714, show ¬ i ≤ 0 by omega, TK, lt_run hn, le43, Int.le_refl, Int.lt_irrefl, Option.some.injEq, exists_eq_left', true_and, and_true, if_true, if_false, decide_eq_false_iff_not, decide_eq_true_eq, Nat.reduceAdd, Nat.reduceLeDiff, Nat.reduceLT, Int.reduceAdd, Int.reduceSub, Int.reduceMul, Int.reduceNeg, not_true_eq_false, not_false_eq_true]
                  exact fin _ (by rw [ef, if_pos ⟨rfl, g, g6, g7⟩])
                · simp +decide (maxSteps := 4000000) (disch := omega) only [k216_0, k216_1, k216_3, k216_4, k216_6, k216_7, k216_8, k216_9, k216_r, k216_s, F_al0, F_il1, J_ifne, T_I, T_ret, F_is2i, F_is2r, F_is2m, T_putI, T_putZ, T_ft, J_ifeq, T_getI, T_iclt, T_icge, F_is3i, F_is3r, F_is3m, J_icne, F_is4i, F_is4r, F_is4m, F_is5i, F_is5r, F_is5m, J_ifle, T_getR, T_sub, X_iald, F_il4, F_il5, F_il3, T_iast, T_dupI, T_dupR, T_add, T_goto, F_il2, T_dup2, c217, c218, c220, c221, c224, c225, c226, c227, ↓s218, ↓s226, FM F, MX, ↓s221 F hn, ↓s224 F hn, rf_y, c5, r2, r3, g6, g7, ln_713, ln_714, show ¬ i ≤ 0 by omega, TK, lt_run hn, le43, Int.le_refl, Int.lt_irrefl, Option.some.injEq, exists_eq_left', true_and, and_true, if_true, if_false, decide_eq_false_iff_not, decide_eq_true_eq, Nat.reduceAdd, Nat.reduceLeDiff, Nat.reduceLT, Int.reduceAdd, Int.reduceSub, Int.reduceMul, Int.reduceNeg, not_true_eq_false, not_false_eq_true]
                  exact fin _ (by rw [ef, if_neg (fun q => g7 q.2.2.2)])
              · simp +decide (maxSteps := 4000000) (disch := omega) only [k216_0, k216_1, k216_3, k216_4, k216_6, k216_7, k216_8, k216_9, k216_r, k216_s, F_al0, F_il1, J_ifne, T_I, T_ret, F_is2i, F_is2r, F_is2m, T_putI, T_putZ, T_ft, J_ifeq, T_getI, T_iclt, T_icge, F_is3i, F_is3r, F_is3m, J_icne, F_is4i, F_is4r, F_is4m, F_is5i, F_is5r, F_is5m, J_ifle, T_getR, T_sub, X_iald, F_il4, F_il5, F_il3, T_iast, T_dupI, T_dupR, T_add, T_goto, F_il2, T_dup2, c217, c218, c220, c221, c224, c225, c226, c227, ↓s218, ↓s226, FM F, MX, ↓s221 F hn, ↓s224 F hn, rf_y, c5, r2, r3, g6, ln_713, ln_714, show ¬ i ≤ 0 by omega, TK, lt_run hn, le43, Int.le_refl, Int.lt_irrefl, Option.some.injEq, exists_eq_left', true_and, and_true, if_true, if_false, decide_eq_false_iff_not, decide_eq_true_eq, Nat.reduceAdd, Nat.reduceLeDiff, Nat.reduceLT, Int.reduceAdd, Int.reduceSub, Int.reduceMul, Int.reduceNeg, not_true_eq_false, not_false_eq_true]
                exact fin _ (by rw [ef, if_neg (fun q => g6 q.2.2.1)])
            · rw [g5] at c5 ef ⊢
              simp +decide (maxSteps := 4000000) (disch := omega) only [k216_0, k216_1, k216_3, k216_4, k216_6, k216_7, k216_8, k216_9, k216_r, k216_s, F_al0, F_il1, J_ifne, T_I, T_ret, F_is2i, F_is2r, F_is2m, T_putI, T_putZ, T_ft, J_ifeq, T_getI, T_iclt, T_icge, F_is3i, F_is3r, F_is3m, J_icne, F_is4i, F_is4r, F_is4m, F_is5i, F_is5r, F_is5m, J_ifle, T_getR, T_sub, X_iald, F_il4, F_il5, F_il3, T_iast, T_dupI, T_dupR, T_add, T_goto, F_il2, T_dup2, c217, c218, c220, c221, c224, c225, c226, c227, ↓s218, ↓s224, ↓s226, FM F, MX, ↓s221 F hn, c5, show i ≤ 0 by omega, TK, lt_run hn, le43, Int.le_refl, Int.lt_irrefl, Option.some.injEq, exists_eq_left', true_and, and_true, if_true, if_false, decide_eq_false_iff_not, decide_eq_true_eq, Nat.reduceAdd, Nat.reduceLeDiff, Nat.reduceLT, Int.reduceAdd, Int.reduceSub, Int.reduceMul, Int.reduceNeg, not_true_eq_false, not_false_eq_true]
              exact fin _ (by rw [ef, if_neg (fun q => g q.2.1)])
          · simp +decide (maxSteps := 4000000) (disch := omega) only [k216_0, k216_1, k216_3, k216_4, k216_6, k216_7, k216_8, k216_9, k216_r, k216_s, F_al0, F_il1, J_ifne, T_I, T_ret, F_is2i, F_is2r, F_is2m, T_putI, T_putZ, T_ft, J_ifeq, T_getI, T_iclt, T_icge, F_is3i, F_is3r, F_is3m, J_icne, F_is4i, F_is4r, F_is4m, F_is5i, F_is5r, F_is5m, J_ifle, T_getR, T_sub, X_iald, F_il4, F_il5, F_il3, T_iast, T_dupI, T_dupR, T_add, T_goto, F_il2, T_dup2, c217, c218, c220, c221, c224, c225, c226, c227, ↓s218, ↓s224, ↓s226, FM F, MX, ↓s221 F hn, g5, TK, lt_run hn, le43, Int.le_refl, Int.lt_irrefl, Option.some.injEq, exists_eq_left', true_and, and_true, if_true, if_false, decide_eq_false_iff_not, decide_eq_true_eq, Nat.reduceAdd, Nat.reduceLeDiff, Nat.reduceLT, Int.reduceAdd, Int.reduceSub, Int.reduceMul, Int.reduceNeg, not_true_eq_false, not_false_eq_true]
            exact fin _ (by rw [ef, if_neg (fun q => g5 q.1)])
        have c6 : MS h (p + 1) (-1) 704 15 = J i := by rw [MS_j (by decide)]; exact R.1
        by_cases g : i = 10
        · simp +decide (maxSteps := 4000000) (disch := omega) only [k216_0, k216_1, k216_3, k216_5, k216_6, k216_7, k216_8, k216_9, k216_r, k216_s, F_al0, F_il1, J_ifne, T_I, T_ret, F_is2i, F_is2r, F_is2m, T_putI, T_putZ, T_ft, J_ifeq, T_getI, T_iclt, T_icge, F_is3i, F_is3r, F_is3m, J_icne, F_is4i, F_is4r, F_is4m, F_is5i, F_is5r, F_is5m, J_ifle, T_getR, T_sub, X_iald, F_il4, F_il5, F_il3, T_iast, T_dupI, T_dupR, T_add, T_goto, F_il2, T_dup2, c217, c218, c220, c221, c224, c225, c226, c227, ↓s218, ↓s226, FM F, MX, ↓s221 F hn, ↓s224 F hn, rf_y, c6, g, TK, lt_run hn, le43, Int.le_refl, Int.lt_irrefl, Option.some.injEq, exists_eq_left', true_and, and_true, if_true, if_false, decide_eq_false_iff_not, decide_eq_true_eq, Nat.reduceAdd, Nat.reduceLeDiff, Nat.reduceLT, Int.reduceAdd, Int.reduceSub, Int.reduceMul, Int.reduceNeg, not_true_eq_false, not_false_eq_true]
          exact start _ (by rw [if_pos g])
        · simp +decide (maxSteps := 4000000) (disch := omega) only [k216_0, k216_1, k216_3, k216_5, k216_6, k216_7, k216_8, k216_9, k216_r, k216_s, F_al0, F_il1, J_ifne, T_I, T_ret, F_is2i, F_is2r, F_is2m, T_putI, T_putZ, T_ft, J_ifeq, T_getI, T_iclt, T_icge, F_is3i, F_is3r, F_is3m, J_icne, F_is4i, F_is4r, F_is4m, F_is5i, F_is5r, F_is5m, J_ifle, T_getR, T_sub, X_iald, F_il4, F_il5, F_il3, T_iast, T_dupI, T_dupR, T_add, T_goto, F_il2, T_dup2, c217, c218, c220, c221, c224, c225, c226, c227, ↓s218, ↓s226, FM F, MX, ↓s221 F hn, ↓s224 F hn, c6, g, TK, lt_run hn, le43, Int.le_refl, Int.lt_irrefl, Option.some.injEq, exists_eq_left', true_and, and_true, if_true, if_false, decide_eq_false_iff_not, decide_eq_true_eq, Nat.reduceAdd, Nat.reduceLeDiff, Nat.reduceLT, Int.reduceAdd, Int.reduceSub, Int.reduceMul, Int.reduceNeg, not_true_eq_false, not_false_eq_true]
          exact start _ (by rw [if_neg g])
      · rw [if_neg g2] at k
        rw [show xp b t 32 p (-1) = p from if_neg (fun q => g2 q.2), show xf b t 32 p (-1) = p from if_neg (fun q => g2 q.2)]
        have pn : p ≠ -1 := by omega
        simp +decide (maxSteps := 4000000) (disch := omega) only [k216_0, k216_1, k216_3, k216_4, k216_5, k216_6, k216_7, k216_8, k216_9, k216_r, k216_s, F_al0, F_il1, J_ifne, T_I, T_ret, F_is2i, F_is2r, F_is2m, T_putI, T_putZ, T_ft, J_ifeq, T_getI, T_iclt, T_icge, F_is3i, F_is3r, F_is3m, J_icne, F_is4i, F_is4r, F_is4m, F_is5i, F_is5r, F_is5m, J_ifle, T_getR, T_sub, X_iald, F_il4, F_il5, F_il3, T_iast, T_dupI, T_dupR, T_add, T_goto, F_il2, T_dup2, c217, c218, c220, c221, c224, c225, c226, c227, ↓s218, ↓s224, ↓s226, FM F, MX, ↓s221 F hn, x220 F hn T, x225 F hn T, numM_f, xp_f, xf_f, pn, TK, lt_run hn, le43, Int.le_refl, Int.lt_irrefl, Option.some.injEq, exists_eq_left', true_and, and_true, if_true, if_false, decide_eq_false_iff_not, decide_eq_true_eq, Nat.reduceAdd, Nat.reduceLeDiff, Nat.reduceLT, Int.reduceAdd, Int.reduceSub, Int.reduceMul, Int.reduceNeg, not_true_eq_false, not_false_eq_true]
        rw [k216_2]
        simp +decide (maxSteps := 4000000) (disch := omega) only [k216_0, k216_1, k216_3, k216_4, k216_5, k216_6, k216_8, k216_9, k216_r, k216_s, F_al0, F_il1, J_ifne, T_I, T_ret, F_is2i, F_is2r, F_is2m, T_putI, T_putZ, T_ft, J_ifeq, T_getI, T_iclt, T_icge, F_is3i, F_is3r, F_is3m, J_icne, F_is4i, F_is4r, F_is4m, F_is5i, F_is5r, F_is5m, J_ifle, T_getR, T_sub, X_iald, F_il4, F_il5, F_il3, T_iast, T_dupI, T_dupR, T_add, T_goto, F_il2, T_dup2, c217, c218, c220, c221, c224, c225, c226, c227, ↓s218, ↓s224, ↓s226, FM F, MX, ↓s221 F hn, pn, TK, lt_run hn, le43, Int.le_refl, Int.lt_irrefl, Option.some.injEq, exists_eq_left', true_and, and_true, if_true, if_false, decide_eq_false_iff_not, decide_eq_true_eq, Nat.reduceAdd, Nat.reduceLeDiff, Nat.reduceLT, Int.reduceAdd, Int.reduceSub, Int.reduceMul, Int.reduceNeg, not_true_eq_false, not_false_eq_true]
        exact k h p _ _ _ (by omega) (by omega) Ef.refl (fun q => absurd q pn)
end RT
