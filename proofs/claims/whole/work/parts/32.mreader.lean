/-! Numbers on the tape; the reference's reading -/
section RN
variable {E : AEn} {h : AHi} {hr : AHr} {n : Nat} {Q : ARs → Prop} {t p f a w : Int} {b : Int → Int}
theorem dgs_b (hb : ∀ i, 0 ≤ b i ∧ b i ≤ 255) : ∀ (k : Nat) (v d p f : Int), (0 ≤ d ∧ d ≤ 9) → (0 ≤ v ∧ v < p10 d) → 0 ≤ p →
    (0 ≤ (dgs b t k v d p f).2.1 ∧ (dgs b t k v d p f).2.1 ≤ 9) ∧ (0 ≤ (dgs b t k v d p f).1 ∧ (dgs b t k v d p f).1 < 1000000000) ∧ p ≤ (dgs b t k v d p f).2.2.1 ∧ ((dgs b t k v d p f).2.2.1 = p ∨ (dgs b t k v d p f).2.2.1 ≤ t) ∧ ((dgs b t k v d p f).2.2.2 = f ∨ (dgs b t k v d p f).2.2.2 = (dgs b t k v d p f).2.2.1) ∧ d ≤ (dgs b t k v d p f).2.1 ∧ (dgs b t k v d p f).2.2.1 - p = (dgs b t k v d p f).2.1 - d := by
  intro k
  induction k with
  | zero =>
    intro v d p f hd hv hp
    have := p10_le hd.1 hd.2
    unfold dgs
    dsimp only
    omega
  | succ k ih =>
    intro v d p f hd hv hp
    have h10 := p10_le hd.1 hd.2
    have hs := p10_s hd.1
    unfold dgs
    split
    · rename_i h1
      have h3 := bt_in (b := b) (t := t) (i := p) (by omega)
      split
      · rw [dgs_f (show p ≠ -1 by omega)]
        dsimp only
        omega
      · have := ih (v * 10 + bt b t p - 48) (d + 1) (p + 1) f (by omega) (by omega) (by omega)
        omega
    · dsimp only
      omega
/-- readNumber: value, place, fault -/
def numC (b : Int → Int) (t lo hi p f : Int) : Int × Int × Int :=
  let g := dgs b t 10 0 0 p f
  let f1 := if g.2.1 = 0 then rf g.2.2.2 g.2.2.1 else g.2.2.2
  (g.1, g.2.2.1, if g.1 < lo ∨ hi < g.1 then rf f1 p else f1)
theorem s14 (F : FH hr) (hn : 775 ≤ n) (T : TpC h t b) (hp : 0 ≤ p ∧ p ≤ 10000) (hf : f = -1 ∨ 0 ≤ f ∧ f ≤ 10000) {lo hi : Int} (hl : -1000000000 ≤ lo ∧ lo ≤ 1000000000) (hh : -1000000000 ≤ hi ∧ hi ≤ 1000000000) : Sp E 14 [.ref 44, .int (J lo), .int (J hi)] (RS h p f) hr n Q ↔ Q (some (.int (J (numC b t lo hi p f).1)), RS h (numC b t lo hi p f).2.1 (numC b t lo hi p f).2.2, hr, n) := by
  have hb := dgs_b (t := t) T.2.1 10 0 0 p f (by omega) (by decide) hp.1
  have ht := T.1
  unfold numC
  simp +decide (maxSteps := 4000000) (disch := omega) only [k14_0, k14_1, k14_2, k14_r, k14_s, F_al0, T_getI, F_is3i, F_is3r, F_is3m, F_is4i, F_is4r, F_is4m, F_il4, F_il1, T_iclt, F_il2, T_icle, T_ft, F_il3, T_ret, c15, c18, RX, ↓s15 F hn T hp, TK, lt_run hn, Option.some.injEq, exists_eq_left', true_and, and_true, if_true, if_false, decide_eq_false_iff_not, decide_eq_true_eq, Nat.reduceAdd, Nat.reduceLeDiff, Nat.reduceLT, Int.reduceAdd, Int.reduceSub, Int.reduceMul, Int.reduceNeg, not_true_eq_false, not_false_eq_true]
  generalize dgs b t 10 0 0 p f = g at hb ⊢
  have hg : -1 ≤ (if g.2.1 = 0 then rf g.2.2.2 g.2.2.1 else g.2.2.2) ∧ (if g.2.1 = 0 then rf g.2.2.2 g.2.2.1 else g.2.2.2) ≤ 100000 := by
    unfold rf
    repeat' split
    all_goals omega
  generalize (if g.2.1 = 0 then rf g.2.2.2 g.2.2.1 else g.2.2.2) = f1 at hg ⊢
  simp +decide (maxSteps := 4000000) (disch := omega) only [k14_0, k14_1, k14_2, k14_r, k14_s, F_al0, T_getI, F_is3i, F_is3r, F_is3m, F_is4i, F_is4r, F_is4m, F_il4, F_il1, T_iclt, F_il2, T_icle, T_ft, F_il3, T_ret, c15, c18, RX, ↓s18 F hn, TK, lt_run hn, Option.some.injEq, exists_eq_left', true_and, and_true, if_true, if_false, decide_eq_false_iff_not, decide_eq_true_eq, Nat.reduceAdd, Nat.reduceLeDiff, Nat.reduceLT, Int.reduceAdd, Int.reduceSub, Int.reduceMul, Int.reduceNeg, not_true_eq_false, not_false_eq_true]
  by_cases e1 : g.1 < lo
  · simp only [e1, if_true, true_or]
  · by_cases e2 : hi < g.1
    · simp only [e1, e2, if_true, if_false, or_true, show ¬ g.1 ≤ hi by omega]
    · simp only [e1, e2, if_true, if_false, or_false, show g.1 ≤ hi by omega]
/-- readInt -/
def intC (b : Int → Int) (t lo hi p f : Int) : Int × Int × Int :=
  if f = -1 ∧ bt b t p = 45 then
    let f0 := if bt b t (p + 1) = 48 then p + 1 else -1
    let g := dgs b t 10 0 0 (p + 1) f0
    let f1 := if g.2.1 = 0 then rf g.2.2.2 g.2.2.1 else g.2.2.2
    (-g.1, g.2.2.1, if -g.1 < lo ∨ hi < -g.1 then rf f1 p else f1)
  else numC b t lo hi p f
theorem s27 (F : FH hr) (hn : 775 ≤ n) (T : TpC h t b) (hp : 0 ≤ p ∧ p ≤ 9999) (hf : f = -1 ∨ 0 ≤ f ∧ f ≤ 10000) {lo hi : Int} (hl : -1000000000 ≤ lo ∧ lo ≤ 1000000000) (hh : -1000000000 ≤ hi ∧ hi ≤ 1000000000) : Sp E 27 [.ref 44, .int (J lo), .int (J hi)] (RS h p f) hr n Q ↔ Q (some (.int (J (intC b t lo hi p f).1)), RS h (intC b t lo hi p f).2.1 (intC b t lo hi p f).2.2, hr, n) := by
  have ht := T.1
  have hb1 := bt_r (t := t) T.2.1 (p + 1)
  simp +decide (maxSteps := 4000000) (disch := omega) only [k27_0, k27_2, k27_3, k27_4, k27_5, k27_r, k27_s, F_al0, T_getI, F_is3i, F_is3r, F_is3m, T_I, F_is4i, F_is4r, F_is4m, F_il4, J_ifeq, J_icne, T_ft, T_neg, T_goto, F_is5i, F_is5r, F_is5m, F_il5, F_il1, T_iclt, F_il2, T_icle, F_il3, T_ret, c15, c18, c19, c23, RX, ↓s18 F hn, ↓s19 F hn T, ↓s23 F hn T, TK, lt_run hn, Option.some.injEq, exists_eq_left', true_and, and_true, if_true, if_false, decide_eq_false_iff_not, decide_eq_true_eq, Nat.reduceAdd, Nat.reduceLeDiff, Nat.reduceLT, Int.reduceAdd, Int.reduceSub, Int.reduceMul, Int.reduceNeg, not_true_eq_false, not_false_eq_true]
  by_cases e0 : f = -1 ∧ bt b t p = 45
  · obtain ⟨rfl, e1⟩ := e0
    have h3 := bt_in (b := b) (t := t) (i := p) (by omega)
    have main : ∀ f0 : Int, (f0 = -1 ∨ 0 ≤ f0 ∧ f0 ≤ 10000) → (Tm E 27 (a_bl 27 1) [.ref 44, .int (J lo), .int (J hi), .int (J p), .int (J 1), a_mk] [] (RS h (p + 1) f0) hr n Q ↔ Q (some (.int (J (-(dgs b t 10 0 0 (p + 1) f0).1))), RS h (dgs b t 10 0 0 (p + 1) f0).2.2.1 (if -(dgs b t 10 0 0 (p + 1) f0).1 < lo ∨ hi < -(dgs b t 10 0 0 (p + 1) f0).1 then rf (if (dgs b t 10 0 0 (p + 1) f0).2.1 = 0 then rf (dgs b t 10 0 0 (p + 1) f0).2.2.2 (dgs b t 10 0 0 (p + 1) f0).2.2.1 else (dgs b t 10 0 0 (p + 1) f0).2.2.2) p else (if (dgs b t 10 0 0 (p + 1) f0).2.1 = 0 then rf (dgs b t 10 0 0 (p + 1) f0).2.2.2 (dgs b t 10 0 0 (p + 1) f0).2.2.1 else (dgs b t 10 0 0 (p + 1) f0).2.2.2)), hr, n)) := by
      intro f0 hf0
      have hb := dgs_b (t := t) T.2.1 10 0 0 (p + 1) f0 (by omega) (by decide) (by omega)
      simp +decide (maxSteps := 4000000) (disch := omega) only [k27_0, k27_1, k27_2, k27_3, k27_4, k27_5, k27_r, k27_s, F_al0, T_getI, F_is3i, F_is3r, F_is3m, T_I, F_is4i, F_is4r, F_is4m, F_il4, J_ifeq, J_icne, T_ft, T_neg, T_goto, F_is5i, F_is5r, F_is5m, F_il5, F_il1, T_iclt, F_il2, T_icle, F_il3, T_ret, c15, c18, c19, c23, RX, ↓s15 F hn T, TK, lt_run hn, Option.some.injEq, exists_eq_left', true_and, and_true, if_true, if_false, decide_eq_false_iff_not, decide_eq_true_eq, Nat.reduceAdd, Nat.reduceLeDiff, Nat.reduceLT, Int.reduceAdd, Int.reduceSub, Int.reduceMul, Int.reduceNeg, not_true_eq_false, not_false_eq_true]
      generalize dgs b t 10 0 0 (p + 1) f0 = g at hb ⊢
      have hg : -1 ≤ (if g.2.1 = 0 then rf g.2.2.2 g.2.2.1 else g.2.2.2) ∧ (if g.2.1 = 0 then rf g.2.2.2 g.2.2.1 else g.2.2.2) ≤ 100000 := by
        unfold rf
        repeat' split
        all_goals omega
      generalize (if g.2.1 = 0 then rf g.2.2.2 g.2.2.1 else g.2.2.2) = f1 at hg ⊢
      simp +decide (maxSteps := 4000000) (disch := omega) only [k27_0, k27_1, k27_2, k27_3, k27_4, k27_5, k27_r, k27_s, F_al0, T_getI, F_is3i, F_is3r, F_is3m, T_I, F_is4i, F_is4r, F_is4m, F_il4, J_ifeq, J_icne, T_ft, T_neg, T_goto, F_is5i, F_is5r, F_is5m, F_il5, F_il1, T_iclt, F_il2, T_icle, F_il3, T_ret, c15, c18, c19, c23, RX, ↓s18 F hn, TK, lt_run hn, Option.some.injEq, exists_eq_left', true_and, and_true, if_true, if_false, decide_eq_false_iff_not, decide_eq_true_eq, Nat.reduceAdd, Nat.reduceLeDiff, Nat.reduceLT, Int.reduceAdd, Int.reduceSub, Int.reduceMul, Int.reduceNeg, not_true_eq_false, not_false_eq_true]
      by_cases e1 : -g.1 < lo
      · simp only [e1, if_true, true_or]
      · by_cases e2 : hi < -g.1
        · simp only [e1, e2, if_true, if_false, or_true, show ¬ -g.1 ≤ hi by omega]
        · simp only [e1, e2, if_true, if_false, or_false, show -g.1 ≤ hi by omega]
    unfold intC
    rw [if_pos ⟨rfl, e1⟩, if_pos (⟨rfl, e1⟩ : (-1 : Int) = -1 ∧ bt b t p = 45)]
    by_cases e2 : bt b t (p + 1) = 48
    · simp only [e2, if_true]
      exact main (p + 1) (by omega)
    · simp only [e2, if_false]
      exact main (-1) (by omega)
  · unfold intC
    rw [if_neg e0, if_neg e0]
    unfold numC
    have hb := dgs_b (t := t) T.2.1 10 0 0 p f (by omega) (by decide) (by omega)
    simp +decide (maxSteps := 4000000) (disch := omega) only [k27_0, k27_1, k27_2, k27_3, k27_4, k27_5, k27_r, k27_s, F_al0, T_getI, F_is3i, F_is3r, F_is3m, T_I, F_is4i, F_is4r, F_is4m, F_il4, J_ifeq, J_icne, T_ft, T_neg, T_goto, F_is5i, F_is5r, F_is5m, F_il5, F_il1, T_iclt, F_il2, T_icle, F_il3, T_ret, c15, c18, c19, c23, RX, ↓s15 F hn T, TK, lt_run hn, Option.some.injEq, exists_eq_left', true_and, and_true, if_true, if_false, decide_eq_false_iff_not, decide_eq_true_eq, Nat.reduceAdd, Nat.reduceLeDiff, Nat.reduceLT, Int.reduceAdd, Int.reduceSub, Int.reduceMul, Int.reduceNeg, not_true_eq_false, not_false_eq_true]
    generalize dgs b t 10 0 0 p f = g at hb ⊢
    have hg : -1 ≤ (if g.2.1 = 0 then rf g.2.2.2 g.2.2.1 else g.2.2.2) ∧ (if g.2.1 = 0 then rf g.2.2.2 g.2.2.1 else g.2.2.2) ≤ 100000 := by
      unfold rf
      repeat' split
      all_goals omega
    generalize (if g.2.1 = 0 then rf g.2.2.2 g.2.2.1 else g.2.2.2) = f1 at hg ⊢
    simp +decide (maxSteps := 4000000) (disch := omega) only [k27_0, k27_1, k27_2, k27_3, k27_4, k27_5, k27_r, k27_s, F_al0, T_getI, F_is3i, F_is3r, F_is3m, T_I, F_is4i, F_is4r, F_is4m, F_il4, J_ifeq, J_icne, T_ft, T_neg, T_goto, F_is5i, F_is5r, F_is5m, F_il5, F_il1, T_iclt, F_il2, T_icle, F_il3, T_ret, c15, c18, c19, c23, RX, ↓s18 F hn, TK, lt_run hn, Option.some.injEq, exists_eq_left', true_and, and_true, if_true, if_false, decide_eq_false_iff_not, decide_eq_true_eq, Nat.reduceAdd, Nat.reduceLeDiff, Nat.reduceLT, Int.reduceAdd, Int.reduceSub, Int.reduceMul, Int.reduceNeg, not_true_eq_false, not_false_eq_true]
    by_cases e1 : g.1 < lo
    · simp only [e1, if_true, true_or]
    · by_cases e2 : hi < g.1
      · simp only [e1, e2, if_true, if_false, or_true, show ¬ g.1 ≤ hi by omega]
      · simp only [e1, e2, if_true, if_false, or_false, show g.1 ≤ hi by omega]
/-! the reference's reading -/
def TpM (h : AHi) (t : Int) (b : Int → Int) : Prop := (0 ≤ t ∧ t ≤ 1600) ∧ (∀ i, 0 ≤ b i ∧ b i ≤ 255) ∧ h 704 3 = J t ∧ ∀ i, 0 ≤ i → i < t → gA h 706 i = J (b i)
def MS (h : AHi) (a w : Int) : AHi := hI (hI h 704 4 (J a)) 704 5 (J w)
theorem MS_4 : MS h a w 704 4 = J a := by unfold MS; rw [hI_k (by decide), hI_s]
theorem MS_5 : MS h a w 704 5 = J w := by unfold MS; rw [hI_s]
theorem MS_k {k : Nat} (h4 : k ≠ 4) (h5 : k ≠ 5) : MS h a w 704 k = h 704 k := by unfold MS; rw [hI_k h5, hI_k h4]
theorem MS_o {x : Nat} (e : x ≠ 704) : MS h a w x = h x := by unfold MS; rw [hI_o e, hI_o e]
theorem MS_g {x : Nat} {i : Int} (e : x ≠ 704) : gA (MS h a w) x i = gA h x i := by unfold gA; rw [MS_o e]
theorem MS_a (q : Int) : hI (MS h a w) 704 4 (J q) = MS h q w := by unfold MS; rw [hI_cm (by decide), hI_ov]
theorem MS_w (q : Int) : hI (MS h a w) 704 5 (J q) = MS h a q := by unfold MS; rw [hI_ov]
theorem MX : (∀ (h : AHi) (p f : Int), MS h p f 704 4 = J p) ∧ (∀ (h : AHi) (p f : Int), MS h p f 704 5 = J f) ∧ (∀ (h : AHi) (p f q : Int), hI (MS h p f) 704 4 (J q) = MS h q f) ∧ (∀ (h : AHi) (p f q : Int), hI (MS h p f) 704 5 (J q) = MS h p q) ∧ (∀ (h : AHi) (p f : Int), MS h p f 704 3 = h 704 3) ∧ (∀ (h : AHi) (p f i : Int), gA (MS h p f) 706 i = gA h 706 i) :=
  ⟨fun _ _ _ => MS_4, fun _ _ _ => MS_5, fun _ _ _ => MS_a, fun _ _ _ => MS_w, fun _ _ _ => MS_k (by decide) (by decide), fun _ _ _ _ => MS_g (by decide)⟩
theorem s221 (F : FH hr) (hn : 775 ≤ n) (hf : -1 ≤ w ∧ w ≤ 100000) : Sp E 221 [.ref 704] (MS h a w) hr n Q ↔ Q (some (.int (Bz (decide (w = -1)))), MS h a w, hr, n) := by
  simp +decide (maxSteps := 4000000) (disch := omega) only [k221_0, k221_1, k221_2, k221_r, k221_s, F_al0, T_getI, T_I, J_icne, T_goto, T_ft, T_ret, MX, TK, lt_run hn, Option.some.injEq, exists_eq_left', true_and, and_true, if_true, if_false, decide_eq_false_iff_not, decide_eq_true_eq, Nat.reduceAdd, Nat.reduceLeDiff, Nat.reduceLT, Int.reduceAdd, Int.reduceSub, Int.reduceMul, Int.reduceNeg, not_true_eq_false, not_false_eq_true]
  split
  · rw [decide_eq_true (by omega)]; rfl
  · rw [decide_eq_false (by omega)]; rfl
theorem s222 (F : FH hr) (hn : 775 ≤ n) (T : TpM h t b) (hp : 0 ≤ a ∧ a ≤ 100000) : Sp E 222 [.ref 704] (MS h a w) hr n Q ↔ Q (some (.int (J (bt b t a))), MS h a w, hr, n) := by
  have t1 := T.1
  have t2 := T.2.2.1
  unfold bt
  by_cases e : t ≤ a
  · rw [if_neg (by omega)]
    simp +decide (maxSteps := 4000000) (disch := omega) only [k222_0, k222_1, k222_2, k222_r, k222_s, F_al0, T_getI, T_icge, T_getR, X_iald, T_goto, T_I, T_ft, T_ret, MX, t2, e, TK, lt_run hn, Option.some.injEq, exists_eq_left', true_and, and_true, if_true, if_false, decide_eq_false_iff_not, decide_eq_true_eq, Nat.reduceAdd, Nat.reduceLeDiff, Nat.reduceLT, Int.reduceAdd, Int.reduceSub, Int.reduceMul, Int.reduceNeg, not_true_eq_false, not_false_eq_true]
  · have t3 := T.2.2.2 a (by omega) (by omega)
    rw [if_pos (by omega)]
    simp +decide (maxSteps := 4000000) (disch := omega) only [k222_0, k222_1, k222_2, k222_r, k222_s, F_al0, T_getI, T_icge, T_getR, X_iald, T_goto, T_I, T_ft, T_ret, MX, t2, e, FM F, ln_706, t3, TK, lt_run hn, Option.some.injEq, exists_eq_left', true_and, and_true, if_true, if_false, decide_eq_false_iff_not, decide_eq_true_eq, Nat.reduceAdd, Nat.reduceLeDiff, Nat.reduceLT, Int.reduceAdd, Int.reduceSub, Int.reduceMul, Int.reduceNeg, not_true_eq_false, not_false_eq_true]
theorem s224 (F : FH hr) (hn : 775 ≤ n) (hf : -1 ≤ w ∧ w ≤ 100000) (x : Int) : Sp E 224 [.ref 704, .int (J x)] (MS h a w) hr n Q ↔ Q (none, MS h a (rf w x), hr, n) := by
  simp +decide (maxSteps := 4000000) (disch := omega) only [k224_0, k224_1, k224_r, k224_s, F_al0, T_getI, T_I, J_icne, F_il1, T_putI, T_putZ, T_ft, T_ret, MX, TK, lt_run hn, Option.some.injEq, exists_eq_left', true_and, and_true, if_true, if_false, decide_eq_false_iff_not, decide_eq_true_eq, Nat.reduceAdd, Nat.reduceLeDiff, Nat.reduceLT, Int.reduceAdd, Int.reduceSub, Int.reduceMul, Int.reduceNeg, not_true_eq_false, not_false_eq_true]
  unfold rf
  repeat' split
  all_goals first | exact Iff.rfl | (exfalso; omega)
theorem s225 (F : FH hr) (hn : 775 ≤ n) (T : TpM h t b) (hp : 0 ≤ a ∧ a ≤ 100000) (hf : -1 ≤ w ∧ w ≤ 100000) {c : Int} (hc : 0 ≤ c ∧ c ≤ 1000) : Sp E 225 [.ref 704, .int (J c)] (MS h a w) hr n Q ↔ if w = -1 ∧ bt b t a = c then Q (none, MS h (a + 1) w, hr, n) else Q (none, MS h a (rf w a), hr, n) := by
  have hb := bt_r (t := t) T.2.1 a
  simp +decide (maxSteps := 4000000) (disch := omega) only [k225_0, k225_1, k225_2, k225_3, k225_r, k225_s, F_al0, J_ifne, T_ret, F_il1, J_icne, T_dupI, T_dupR, T_getI, T_I, T_add, T_putI, T_putZ, T_goto, T_ft, c221, c222, c224, MX, ↓s221 F hn, ↓s222 F hn T, ↓s224 F hn, TK, lt_run hn, Option.some.injEq, exists_eq_left', true_and, and_true, if_true, if_false, decide_eq_false_iff_not, decide_eq_true_eq, Nat.reduceAdd, Nat.reduceLeDiff, Nat.reduceLT, Int.reduceAdd, Int.reduceSub, Int.reduceMul, Int.reduceNeg, not_true_eq_false, not_false_eq_true]
  unfold rf
  repeat' split
  all_goals first | exact Iff.rfl | (exfalso; omega)
theorem s265 (F : FH hr) (hn : 775 ≤ n) (T : TpM h t b) (hp : 0 ≤ a ∧ a ≤ 100000) (hf : -1 ≤ w ∧ w ≤ 100000) {c : Int} (hc : 0 ≤ c ∧ c ≤ 1000) : Sp E 265 [.ref 704, .int (J c)] (MS h a w) hr n Q ↔ Q (some (.int (Bz (decide (w = -1 ∧ bt b t a = c)))), MS h a w, hr, n) := by
  have hb := bt_r (t := t) T.2.1 a
  simp +decide (maxSteps := 4000000) (disch := omega) only [k265_0, k265_1, k265_2, k265_r, k265_s, F_al0, J_ifeq, F_il1, J_icne, T_I, T_goto, T_ft, T_ret, c221, c222, MX, ↓s221 F hn, ↓s222 F hn T, TK, lt_run hn, Option.some.injEq, exists_eq_left', true_and, and_true, if_true, if_false, decide_eq_false_iff_not, decide_eq_true_eq, Nat.reduceAdd, Nat.reduceLeDiff, Nat.reduceLT, Int.reduceAdd, Int.reduceSub, Int.reduceMul, Int.reduceNeg, not_true_eq_false, not_false_eq_true]
  repeat' split
  all_goals first | (rw [decide_eq_false (by omega)]; rfl) | (rw [decide_eq_true (by omega)]; rfl)
theorem s321 (F : FH hr) (hn : 775 ≤ n) (T : TpM h t b) (hp : 0 ≤ a ∧ a ≤ 100000) (hf : -1 ≤ w ∧ w ≤ 100000) : Sp E 321 [.ref 704] (MS h a w) hr n Q ↔ Q (none, MS h a (if a < t then rf w a else w), hr, n) := by
  have t1 := T.1
  have t2 := T.2.2.1
  simp +decide (maxSteps := 4000000) (disch := omega) only [k321_0, k321_1, k321_r, k321_s, F_al0, J_ifeq, T_getI, T_icge, T_ft, T_ret, c221, c224, MX, ↓s221 F hn, ↓s224 F hn, t2, TK, lt_run hn, Option.some.injEq, exists_eq_left', true_and, and_true, if_true, if_false, decide_eq_false_iff_not, decide_eq_true_eq, Nat.reduceAdd, Nat.reduceLeDiff, Nat.reduceLT, Int.reduceAdd, Int.reduceSub, Int.reduceMul, Int.reduceNeg, not_true_eq_false, not_false_eq_true]
  unfold rf
  repeat' split
  all_goals first | exact Iff.rfl | (exfalso; omega)
theorem s226 (F : FH hr) (hn : 775 ≤ n) : Sp E 226 [.ref 704] (MS h a w) hr n Q ↔ Q (some (.int (J (-1000 - w))), MS h a w, hr, n) := by
  simp +decide (maxSteps := 4000000) (disch := omega) only [k226_0, k226_r, k226_s, T_I, F_al0, T_getI, T_sub, T_ret, MX, TK, lt_run hn, Option.some.injEq, exists_eq_left', true_and, and_true, if_true, if_false, decide_eq_false_iff_not, decide_eq_true_eq, Nat.reduceAdd, Nat.reduceLeDiff, Nat.reduceLT, Int.reduceAdd, Int.reduceSub, Int.reduceMul, Int.reduceNeg, not_true_eq_false, not_false_eq_true]
end RN
