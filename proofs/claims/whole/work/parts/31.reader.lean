/-! The class's reading of the tape -/
theorem Ob_tape {E : AEn} {hr : AHr} {n : Nat} (F : FH hr) (hn : 775 ≤ n) : Ob E hr n 44 45 1600 := ⟨f44_0 F, by decide, by decide, by omega, by decide, by decide, by omega, rfl, by decide, by decide, by decide⟩
/-- the tape holds t bytes b -/
def TpC (h : AHi) (t : Int) (b : Int → Int) : Prop := (0 ≤ t ∧ t ≤ 1600) ∧ (∀ i, 0 ≤ b i ∧ b i ≤ 255) ∧ BC h 44 45 t b
/-- place and fault set -/
def RS (h : AHi) (p f : Int) : AHi := hI (hI h 44 2 (J p)) 44 3 (J f)
section RD
variable {E : AEn} {h : AHi} {hr : AHr} {n : Nat} {Q : ARs → Prop} {t p f : Int} {b : Int → Int}
theorem RS_1 : RS h p f 44 1 = h 44 1 := by unfold RS; rw [hI_k (by decide), hI_k (by decide)]
theorem RS_2 : RS h p f 44 2 = J p := by unfold RS; rw [hI_k (by decide), hI_s]
theorem RS_3 : RS h p f 44 3 = J f := by unfold RS; rw [hI_s]
theorem RS_o {a : Nat} (e : a ≠ 44) : RS h p f a = h a := by unfold RS; rw [hI_o e, hI_o e]
theorem RS_g {a : Nat} {i : Int} (e : a ≠ 44) : gA (RS h p f) a i = gA h a i := by unfold gA; rw [RS_o e]
theorem hI_cm {h : AHi} {a j k : Nat} {v w : Int32} (e : j ≠ k) : hI (hI h a j v) a k w = hI (hI h a k w) a j v := by
  funext x y
  unfold hI va_up
  by_cases e1 : x = a
  · simp only [e1, if_true]
    by_cases e2 : y = j
    · by_cases e3 : y = k
      · exact absurd (e2.symm.trans e3) e
      · simp only [e2, if_true, show ¬ j = k from e, if_false]
    · simp only [e2, if_false]
  · simp only [e1, if_false]
theorem hI_ov {h : AHi} {a k : Nat} {v w : Int32} : hI (hI h a k v) a k w = hI h a k w := by
  funext x y
  unfold hI va_up
  by_cases e1 : x = a
  · simp only [e1, if_true]
    split <;> rfl
  · simp only [e1, if_false]
theorem RS_p (q : Int) : hI (RS h p f) 44 2 (J q) = RS h q f := by unfold RS; rw [hI_cm (by decide), hI_ov]
theorem RS_f (q : Int) : hI (RS h p f) 44 3 (J q) = RS h p q := by unfold RS; rw [hI_ov]
theorem RS_BC (B : BC h 44 45 t b) : BC (RS h p f) 44 45 t b := ⟨by rw [RS_1]; exact B.1, fun i h1 h2 => by rw [RS_g (by decide)]; exact B.2 i h1 h2⟩
theorem RX : (∀ (h : AHi) (p f : Int), RS h p f 44 1 = h 44 1) ∧ (∀ (h : AHi) (p f : Int), RS h p f 44 2 = J p) ∧ (∀ (h : AHi) (p f : Int), RS h p f 44 3 = J f) ∧ (∀ (h : AHi) (p f q : Int), hI (RS h p f) 44 2 (J q) = RS h q f) ∧ (∀ (h : AHi) (p f q : Int), hI (RS h p f) 44 3 (J q) = RS h p q) :=
  ⟨fun _ _ _ => RS_1, fun _ _ _ => RS_2, fun _ _ _ => RS_3, fun _ _ _ => RS_p, fun _ _ _ => RS_f⟩
theorem s13 (F : FH hr) (hn : 775 ≤ n) : Sp E 13 [.ref 44] h hr n Q ↔ Q (none, RS h 0 (-1), hr, n) := by
  simp +decide (maxSteps := 4000000) (disch := omega) only [k13_0, k13_r, k13_s, F_al0, T_I, T_putI, T_putZ, T_ret, TK, lt_run hn, Option.some.injEq, exists_eq_left', true_and, and_true, if_true, if_false, decide_eq_false_iff_not, decide_eq_true_eq, Nat.reduceAdd, Nat.reduceLeDiff, Nat.reduceLT, Int.reduceAdd, Int.reduceSub, Int.reduceMul, Int.reduceNeg, not_true_eq_false, not_false_eq_true]
  exact Iff.rfl
theorem s16 (F : FH hr) (hn : 775 ≤ n) (hf : -1 ≤ f ∧ f ≤ 100000) : Sp E 16 [.ref 44] (RS h p f) hr n Q ↔ Q (some (.int (Bz (decide (f = -1)))), RS h p f, hr, n) := by
  simp +decide (maxSteps := 4000000) (disch := omega) only [k16_0, k16_1, k16_2, k16_r, k16_s, F_al0, T_getI, T_I, J_icne, T_goto, T_ft, T_ret, RX, TK, lt_run hn, Option.some.injEq, exists_eq_left', true_and, and_true, if_true, if_false, decide_eq_false_iff_not, decide_eq_true_eq, Nat.reduceAdd, Nat.reduceLeDiff, Nat.reduceLT, Int.reduceAdd, Int.reduceSub, Int.reduceMul, Int.reduceNeg, not_true_eq_false, not_false_eq_true]
  split
  · rw [decide_eq_true (by omega)]; rfl
  · rw [decide_eq_false (by omega)]; rfl
/-- a refusal at w: the first one stays -/
def rf (f w : Int) : Int := if f = -1 then w else f
theorem s18 (F : FH hr) (hn : 775 ≤ n) (hf : -1 ≤ f ∧ f ≤ 100000) (w : Int) : Sp E 18 [.ref 44, .int (J w)] (RS h p f) hr n Q ↔ Q (none, RS h p (rf f w), hr, n) := by
  simp +decide (maxSteps := 4000000) (disch := omega) only [k18_0, k18_1, k18_r, k18_s, F_al0, J_ifeq, F_il1, T_putI, T_putZ, T_ft, T_ret, c16, RX, ↓s16 F hn hf, TK, lt_run hn, Option.some.injEq, exists_eq_left', true_and, and_true, if_true, if_false, decide_eq_false_iff_not, decide_eq_true_eq, Nat.reduceAdd, Nat.reduceLeDiff, Nat.reduceLT, Int.reduceAdd, Int.reduceSub, Int.reduceMul, Int.reduceNeg, not_true_eq_false, not_false_eq_true]
  unfold rf
  repeat' split
  all_goals first | exact Iff.rfl | (exfalso; omega)
theorem c12t (F : FH hr) (hn : 775 ≤ n) (T : TpC h t b) {i : Int} (hi0 : -2147483648 ≤ i) (hi1 : i < 2147483648) : Sp E 12 [.ref 44, .int (J i)] (RS h p f) hr n Q ↔ Q (some (.int (J (bt b t i))), RS h p f, hr, n) := s12 (Ob_tape F hn) (RS_BC T.2.2) T.2.1 T.1.1 T.1.2 hi0 hi1
theorem s19 (F : FH hr) (hn : 775 ≤ n) (T : TpC h t b) (hp : 0 ≤ p ∧ p ≤ 100000) : Sp E 19 [.ref 44] (RS h p f) hr n Q ↔ Q (some (.int (J (bt b t p))), RS h p f, hr, n) := by
  simp +decide (maxSteps := 4000000) (disch := omega) only [k19_0, k19_r, k19_s, F_al0, T_getI, T_ret, c12, RX, c12t F hn T, TK, lt_run hn, Option.some.injEq, exists_eq_left', true_and, and_true, if_true, if_false, decide_eq_false_iff_not, decide_eq_true_eq, Nat.reduceAdd, Nat.reduceLeDiff, Nat.reduceLT, Int.reduceAdd, Int.reduceSub, Int.reduceMul, Int.reduceNeg, not_true_eq_false, not_false_eq_true]
theorem s17 (F : FH hr) (hn : 775 ≤ n) (T : TpC h t b) (hp : 0 ≤ p ∧ p ≤ 100000) {x y : Int} (hx : 0 ≤ x ∧ x ≤ 1000) (hy : 0 ≤ y ∧ y ≤ 1000) : Sp E 17 [.ref 44, .int (J x), .int (J y)] (RS h p f) hr n Q ↔ Q (some (.int (Bz (decide (x ≤ bt b t p ∧ bt b t p ≤ y)))), RS h p f, hr, n) := by
  have hb := bt_r (t := t) T.2.1 p
  simp +decide (maxSteps := 4000000) (disch := omega) only [k17_0, k17_1, k17_2, k17_r, k17_s, F_al0, T_getI, F_is3i, F_is3r, F_is3m, F_il1, F_il3, T_icgt, F_il2, T_I, T_goto, T_ft, T_ret, c12, RX, c12t F hn T, TK, lt_run hn, Option.some.injEq, exists_eq_left', true_and, and_true, if_true, if_false, decide_eq_false_iff_not, decide_eq_true_eq, Nat.reduceAdd, Nat.reduceLeDiff, Nat.reduceLT, Int.reduceAdd, Int.reduceSub, Int.reduceMul, Int.reduceNeg, not_true_eq_false, not_false_eq_true]
  split
  · rw [decide_eq_false (by omega)]; rfl
  · split
    · rw [decide_eq_false (by omega)]; rfl
    · rw [decide_eq_true (by omega)]; rfl
theorem s21 (F : FH hr) (hn : 775 ≤ n) (T : TpC h t b) (hp : 0 ≤ p ∧ p ≤ 100000) (hf : -1 ≤ f ∧ f ≤ 100000) : Sp E 21 [.ref 44] (RS h p f) hr n Q ↔ Q (some (.int (Bz (decide (f = -1 ∧ p < t)))), RS h p f, hr, n) := by
  have h1 := T.1
  have h2 := T.2.2.1
  simp +decide (maxSteps := 4000000) (disch := omega) only [k21_0, k21_1, k21_2, k21_r, k21_s, F_al0, J_ifeq, T_getI, T_icge, T_I, T_goto, T_ft, T_ret, c16, RX, ↓s16 F hn hf, h2, TK, lt_run hn, Option.some.injEq, exists_eq_left', true_and, and_true, if_true, if_false, decide_eq_false_iff_not, decide_eq_true_eq, Nat.reduceAdd, Nat.reduceLeDiff, Nat.reduceLT, Int.reduceAdd, Int.reduceSub, Int.reduceMul, Int.reduceNeg, not_true_eq_false, not_false_eq_true]
  split
  · rw [decide_eq_false (by omega)]; rfl
  · split
    · rw [decide_eq_false (by omega)]; rfl
    · rw [decide_eq_true (by omega)]; rfl
/-- whether c comes next -/
def skp (b : Int → Int) (t p f c : Int) : Prop := f = -1 ∧ bt b t p = c
theorem s23 (F : FH hr) (hn : 775 ≤ n) (T : TpC h t b) (hp : 0 ≤ p ∧ p ≤ 100000) (hf : -1 ≤ f ∧ f ≤ 100000) {c : Int} (hc : 0 ≤ c ∧ c ≤ 1000) : Sp E 23 [.ref 44, .int (J c)] (RS h p f) hr n Q ↔ if f = -1 ∧ bt b t p = c then Q (some (.int (J 1)), RS h (p + 1) f, hr, n) else Q (some (.int (J 0)), RS h p f, hr, n) := by
  have hb := bt_r (t := t) T.2.1 p
  simp +decide (maxSteps := 4000000) (disch := omega) only [k23_0, k23_1, k23_2, k23_3, k23_r, k23_s, F_al0, J_ifeq, T_getI, F_il1, J_icne, T_I, T_goto, T_ft, F_is2i, F_is2r, F_is2m, F_il2, T_dupI, T_dupR, T_add, T_putI, T_putZ, T_ret, c12, c16, RX, ↓s16 F hn hf, c12t F hn T, TK, lt_run hn, Option.some.injEq, exists_eq_left', true_and, and_true, if_true, if_false, decide_eq_false_iff_not, decide_eq_true_eq, Nat.reduceAdd, Nat.reduceLeDiff, Nat.reduceLT, Int.reduceAdd, Int.reduceSub, Int.reduceMul, Int.reduceNeg, not_true_eq_false, not_false_eq_true]
  repeat' split
  all_goals first | exact Iff.rfl | (exfalso; omega)
theorem s22 (F : FH hr) (hn : 775 ≤ n) (T : TpC h t b) (hp : 0 ≤ p ∧ p ≤ 100000) (hf : -1 ≤ f ∧ f ≤ 100000) {c : Int} (hc : 0 ≤ c ∧ c ≤ 1000) : Sp E 22 [.ref 44, .int (J c)] (RS h p f) hr n Q ↔ if f = -1 ∧ bt b t p = c then Q (none, RS h (p + 1) f, hr, n) else Q (none, RS h p (rf f p), hr, n) := by
  simp +decide (maxSteps := 4000000) (disch := omega) only [k22_0, k22_1, k22_r, k22_s, F_al0, F_il1, J_ifne, T_getI, T_ft, T_ret, c18, c23, RX, ↓s23 F hn T hp hf hc, ↓s18 F hn hf, TK, lt_run hn, Option.some.injEq, exists_eq_left', true_and, and_true, if_true, if_false, decide_eq_false_iff_not, decide_eq_true_eq, Nat.reduceAdd, Nat.reduceLeDiff, Nat.reduceLT, Int.reduceAdd, Int.reduceSub, Int.reduceMul, Int.reduceNeg, not_true_eq_false, not_false_eq_true]
theorem s20 (F : FH hr) (hn : 775 ≤ n) (T : TpC h t b) (hp : 0 ≤ p ∧ p ≤ 100000) (hf : -1 ≤ f ∧ f ≤ 100000) : Sp E 20 [.ref 44] (RS h p f) hr n Q ↔ if f = -1 ∧ p < t then (if bt b t p = 32 then Q (some (.int (J 1)), RS h (p + 1) f, hr, n) else Q (some (.int (J 0)), RS h p p, hr, n)) else Q (some (.int (J 0)), RS h p f, hr, n) := by
  simp +decide (maxSteps := 4000000) (disch := omega) only [k20_0, k20_1, k20_r, k20_s, F_al0, J_ifne, T_I, T_ret, c16, c21, c22, RX, ↓s21 F hn T hp hf, ↓s22 F hn T hp hf, TK, lt_run hn, Option.some.injEq, exists_eq_left', true_and, and_true, if_true, if_false, decide_eq_false_iff_not, decide_eq_true_eq, Nat.reduceAdd, Nat.reduceLeDiff, Nat.reduceLT, Int.reduceAdd, Int.reduceSub, Int.reduceMul, Int.reduceNeg, not_true_eq_false, not_false_eq_true]
  by_cases h1 : f = -1 ∧ p < t
  · rw [if_neg (by omega), if_pos h1]
    obtain ⟨rfl, h2⟩ := h1
    by_cases h3 : bt b t p = 32
    · simp +decide (maxSteps := 4000000) (disch := omega) only [k20_0, k20_1, k20_r, k20_s, F_al0, J_ifne, T_I, T_ret, c16, c21, c22, RX, h3, ↓s16 F hn, TK, lt_run hn, Option.some.injEq, exists_eq_left', true_and, and_true, if_true, if_false, decide_eq_false_iff_not, decide_eq_true_eq, Nat.reduceAdd, Nat.reduceLeDiff, Nat.reduceLT, Int.reduceAdd, Int.reduceSub, Int.reduceMul, Int.reduceNeg, not_true_eq_false, not_false_eq_true]
      exact Iff.rfl
    · simp +decide (maxSteps := 4000000) (disch := omega) only [k20_0, k20_1, k20_r, k20_s, F_al0, J_ifne, T_I, T_ret, c16, c21, c22, RX, h3, and_false, TK, lt_run hn, Option.some.injEq, exists_eq_left', true_and, and_true, if_true, if_false, decide_eq_false_iff_not, decide_eq_true_eq, Nat.reduceAdd, Nat.reduceLeDiff, Nat.reduceLT, Int.reduceAdd, Int.reduceSub, Int.reduceMul, Int.reduceNeg, not_true_eq_false, not_false_eq_true]
      have e : rf (-1) p = p := rfl
      rw [e, s16 F hn (by omega)]
      simp +decide (maxSteps := 4000000) (disch := omega) only [k20_0, k20_1, k20_r, k20_s, F_al0, J_ifne, T_I, T_ret, c16, c21, c22, RX, TK, lt_run hn, Option.some.injEq, exists_eq_left', true_and, and_true, if_true, if_false, decide_eq_false_iff_not, decide_eq_true_eq, Nat.reduceAdd, Nat.reduceLeDiff, Nat.reduceLT, Int.reduceAdd, Int.reduceSub, Int.reduceMul, Int.reduceNeg, not_true_eq_false, not_false_eq_true]
      rw [decide_eq_false (by omega)]
      exact Iff.rfl
  · rw [if_pos (by omega), if_neg h1]
theorem s24 (F : FH hr) (hn : 775 ≤ n) : Sp E 24 [.ref 44] (RS h p f) hr n Q ↔ Q (some (.int (J (-1000 - f))), RS h p f, hr, n) := by
  simp +decide (maxSteps := 4000000) (disch := omega) only [k24_0, k24_r, k24_s, T_I, F_al0, T_getI, T_sub, T_ret, RX, TK, lt_run hn, Option.some.injEq, exists_eq_left', true_and, and_true, if_true, if_false, decide_eq_false_iff_not, decide_eq_true_eq, Nat.reduceAdd, Nat.reduceLeDiff, Nat.reduceLT, Int.reduceAdd, Int.reduceSub, Int.reduceMul, Int.reduceNeg, not_true_eq_false, not_false_eq_true]
/-- digits: value, how many, place, fault -/
def dgs (b : Int → Int) (t : Int) : Nat → Int → Int → Int → Int → Int × Int × Int × Int
  | 0, v, d, p, f => (v, d, p, f)
  | k + 1, v, d, p, f => if f = -1 ∧ 48 ≤ bt b t p ∧ bt b t p ≤ 57 then (if d = 9 ∨ (d = 1 ∧ v = 0) then dgs b t k v d p p else dgs b t k (v * 10 + bt b t p - 48) (d + 1) (p + 1) f) else (v, d, p, f)
theorem bt_in {i : Int} (h : 0 ≤ bt b t i) : 0 ≤ i ∧ i < t := by
  unfold bt at h
  split at h
  · assumption
  · omega
theorem dgs_f {k : Nat} {v d : Int} (hf : f ≠ -1) : dgs b t k v d p f = (v, d, p, f) := by
  cases k with
  | zero => rfl
  | succ k => unfold dgs; rw [if_neg (fun q => hf q.1)]
/-- 10 to the power d, as far as it goes -/
def p10 (d : Int) : Int := 10 ^ d.toNat
theorem p10_s {d : Int} (h : 0 ≤ d) : p10 (d + 1) = 10 * p10 d := by
  unfold p10
  rw [show (d + 1).toNat = d.toNat + 1 by omega, Int.pow_succ, Int.mul_comm]
theorem p10_le {d : Int} (h : 0 ≤ d) (h' : d ≤ 9) : p10 d ≤ 1000000000 := by
  have key : ∀ k : Nat, k ≤ 9 → (10 : Int) ^ k ≤ 1000000000 := by decide +kernel
  exact key d.toNat (by omega)
theorem p10_pos (d : Int) : 0 < p10 d := Int.pow_pos (by decide)
theorem z15 (F : FH hr) (hn : 775 ≤ n) (T : TpC h t b) : ∀ (k : Nat) (v d p f : Int), k ≤ 10 → (0 ≤ p ∧ p ≤ 10000) → (f = -1 ∨ 0 ≤ f ∧ f ≤ 100000) → (0 ≤ d ∧ d ≤ 9) → (0 ≤ v ∧ v < p10 d) →
    (Tm E 15 (a_bl 15 1) [.ref 44, .int (J v), .int (J d), .int (J (10 - k))] [] (RS h p f) hr n Q ↔ Q (some (.int (J (dgs b t k v d p f).1)), RS h (dgs b t k v d p f).2.2.1 (if (dgs b t k v d p f).2.1 = 0 then rf (dgs b t k v d p f).2.2.2 (dgs b t k v d p f).2.2.1 else (dgs b t k v d p f).2.2.2), hr, n)) := by
  intro k
  induction k with
  | zero =>
    intro v d p f _ hp hf hd hv
    have h10 := p10_le hd.1 hd.2
    rw [k15_1]
    simp +decide (maxSteps := 4000000) (disch := omega) only [k15_0, k15_2, k15_3, k15_4, k15_5, k15_6, k15_r, k15_s, T_I, F_is1i, F_is1r, F_is1m, F_is2i, F_is2r, F_is2m, F_is3i, F_is3r, F_is3m, T_ft, F_il3, T_icge, F_al0, J_ifeq, F_il2, T_iceq, J_icne, F_il1, J_ifne, T_getI, T_goto, T_mul, T_add, T_sub, F_inc2i, F_inc2r, F_inc2m, T_dupI, T_dupR, T_putI, T_putZ, F_inc3i, F_inc3r, F_inc3m, T_ret, c16, c17, c18, c19, RX, ↓s18 F hn, dgs, TK, lt_run hn, Option.some.injEq, exists_eq_left', true_and, and_true, if_true, if_false, decide_eq_false_iff_not, decide_eq_true_eq, Nat.reduceAdd, Nat.reduceLeDiff, Nat.reduceLT, Int.reduceAdd, Int.reduceSub, Int.reduceMul, Int.reduceNeg, not_true_eq_false, not_false_eq_true]
    by_cases e : d = 0 <;> simp only [e, if_true, if_false]
  | succ k ih =>
    intro v d p f hk hp hf hd hv
    have h10 := p10_le hd.1 hd.2
    have hb := bt_r (t := t) T.2.1 p
    have hs := p10_s hd.1
    rw [k15_1]
    simp +decide (maxSteps := 4000000) (disch := omega) only [k15_0, k15_2, k15_3, k15_4, k15_5, k15_6, k15_r, k15_s, T_I, F_is1i, F_is1r, F_is1m, F_is2i, F_is2r, F_is2m, F_is3i, F_is3r, F_is3m, T_ft, F_il3, T_icge, F_al0, J_ifeq, F_il2, T_iceq, J_icne, F_il1, J_ifne, T_getI, T_goto, T_mul, T_add, T_sub, F_inc2i, F_inc2r, F_inc2m, T_dupI, T_dupR, T_putI, T_putZ, F_inc3i, F_inc3r, F_inc3m, T_ret, c16, c17, c18, c19, RX, ↓s16 F hn, ↓s17 F hn T, ↓s18 F hn, ↓s19 F hn T, show ¬ (10 : Int) ≤ 10 - ((k + 1 : Nat) : Int) by omega, TK, lt_run hn, Option.some.injEq, exists_eq_left', true_and, and_true, if_true, if_false, decide_eq_false_iff_not, decide_eq_true_eq, Nat.reduceAdd, Nat.reduceLeDiff, Nat.reduceLT, Int.reduceAdd, Int.reduceSub, Int.reduceMul, Int.reduceNeg, not_true_eq_false, not_false_eq_true]
    by_cases h1 : f = -1
    · by_cases h2 : 48 ≤ bt b t p ∧ bt b t p ≤ 57
      · have h3 := bt_in (b := b) (t := t) (i := p) (by omega)
        have e1 := T.1
        unfold dgs
        rw [if_pos (⟨h1, h2⟩ : f = -1 ∧ 48 ≤ bt b t p ∧ bt b t p ≤ 57)]
        simp only [h1, h2, not_true_eq_false, if_false, and_self]
        by_cases h4 : d = 9 ∨ d = 1 ∧ v = 0
        · rw [if_pos h4]
          have e2 := ih v d p p (by omega) hp (by omega) hd hv
          rw [show (10 : Int) - (k : Nat) = 10 - ((k + 1 : Nat) : Int) + 1 by omega] at e2
          rw [← e2]
          have e3 : rf (-1) p = p := rfl
          by_cases h5 : d = 9
          · simp only [h5, if_true, e3]
          · have h6 : d = 1 ∧ v = 0 := by omega
            simp only [h6.1, h6.2, if_true, e3]
            simp +decide only [if_false]
        · rw [if_neg h4]
          have e2 := ih (v * 10 + bt b t p - 48) (d + 1) (p + 1) (-1) (by omega) (by omega) (by omega) (by omega) (by omega)
          rw [show (10 : Int) - (k : Nat) = 10 - ((k + 1 : Nat) : Int) + 1 by omega] at e2
          rw [← e2]
          rw [if_neg (show ¬ d = 9 by omega)]
          by_cases h5 : d = 1
          · rw [if_pos h5, if_neg (show ¬ v = 0 by omega)]
          · rw [if_neg h5]
      · have e0 : dgs b t (k + 1) v d p f = (v, d, p, f) := by
          unfold dgs
          exact if_neg (fun q => h2 q.2)
        rw [e0]
        simp only [h1, h2, not_true_eq_false, not_false_eq_true, if_false, if_true]
        by_cases e : d = 0 <;> simp only [e, if_true, if_false]
    · rw [dgs_f h1]
      simp only [h1, not_false_eq_true, if_true]
      by_cases e : d = 0 <;> simp only [e, if_true, if_false]
theorem s15 (F : FH hr) (hn : 775 ≤ n) (T : TpC h t b) (hp : 0 ≤ p ∧ p ≤ 10000) (hf : f = -1 ∨ 0 ≤ f ∧ f ≤ 100000) : Sp E 15 [.ref 44] (RS h p f) hr n Q ↔ Q (some (.int (J (dgs b t 10 0 0 p f).1)), RS h (dgs b t 10 0 0 p f).2.2.1 (if (dgs b t 10 0 0 p f).2.1 = 0 then rf (dgs b t 10 0 0 p f).2.2.2 (dgs b t 10 0 0 p f).2.2.1 else (dgs b t 10 0 0 p f).2.2.2), hr, n) := by
  have e := z15 (E := E) (Q := Q) F hn T 10 0 0 p f (by omega) hp hf (by omega) (by decide)
  rw [← e]
  simp +decide (maxSteps := 4000000) (disch := omega) only [k15_0, k15_2, k15_3, k15_4, k15_5, k15_6, k15_r, k15_s, T_I, F_is1i, F_is1r, F_is1m, F_is2i, F_is2r, F_is2m, F_is3i, F_is3r, F_is3m, T_ft, F_il3, T_icge, F_al0, J_ifeq, F_il2, T_iceq, J_icne, F_il1, J_ifne, T_getI, T_goto, T_mul, T_add, T_sub, F_inc2i, F_inc2r, F_inc2m, T_dupI, T_dupR, T_putI, T_putZ, F_inc3i, F_inc3r, F_inc3m, T_ret, c16, c17, c18, c19, TK, lt_run hn, Option.some.injEq, exists_eq_left', true_and, and_true, if_true, if_false, decide_eq_false_iff_not, decide_eq_true_eq, Nat.reduceAdd, Nat.reduceLeDiff, Nat.reduceLT, Int.reduceAdd, Int.reduceSub, Int.reduceMul, Int.reduceNeg, not_true_eq_false, not_false_eq_true]
  exact Iff.rfl
end RD
