/-! stroke -/
/-- a sign is wanted -/
def xp (b : Int → Int) (t c p f : Int) : Int := if f = -1 ∧ bt b t p = c then p + 1 else p
def xf (b : Int → Int) (t c p f : Int) : Int := if f = -1 ∧ bt b t p = c then f else rf f p
/-- a point is read: x, y, place, fault -/
def rpC (b : Int → Int) (t i : Int) (X Y : Int → Int) (p : Int) : Int × Int × Int × Int :=
  let nx := numC b t 0 47 p (if i = 10 then p else -1)
  let ny := numC b t 0 31 (xp b t 44 nx.2.1 nx.2.2) (xf b t 44 nx.2.1 nx.2.2)
  (nx.1, ny.1, ny.2.1, if 0 < i ∧ X (i - 1) = nx.1 ∧ Y (i - 1) = ny.1 then rf ny.2.2 p else ny.2.2)
def rpM (b : Int → Int) (t i : Int) (X Y : Int → Int) (p : Int) : Int × Int × Int × Int :=
  let nx := numM b t false 0 47 p (if i = 10 then p else -1)
  let ny := numM b t false 0 31 (xp b t 44 nx.2.1 nx.2.2) (xf b t 44 nx.2.1 nx.2.2)
  (nx.1, ny.1, ny.2.1, if ny.2.2 = -1 ∧ 0 < i ∧ X (i - 1) = nx.1 ∧ Y (i - 1) = ny.1 then p else ny.2.2)
/-- the points behind i points: fault, how many, x, y -/
def pts (b : Int → Int) (t : Int) : Nat → Int → Int → (Int → Int) → (Int → Int) → Int × Int × (Int → Int) × (Int → Int)
  | 0, i, _, X, Y => (0, i, X, Y)
  | k + 1, i, p, X, Y => if 2 ≤ i ∧ t ≤ p then (-1, i, X, Y) else if bt b t p = 32 then (if (rpC b t i X Y (p + 1)).2.2.2 = -1 then pts b t k (i + 1) (rpC b t i X Y (p + 1)).2.2.1 (upd1 X i (rpC b t i X Y (p + 1)).1) (upd1 Y i (rpC b t i X Y (p + 1)).2.1) else ((rpC b t i X Y (p + 1)).2.2.2, i, X, Y)) else (p, i, X, Y)
section RQ
variable {E : AEn} {h h' : AHi} {hr : AHr} {n : Nat} {Q : ARs → Prop} {t p f i a w : Int} {b X Y : Int → Int}
theorem x22 (F : FH hr) (hn : 775 ≤ n) (T : TpC h t b) (hp : 0 ≤ p ∧ p ≤ 100000) (hf : -1 ≤ f ∧ f ≤ 100000) {c : Int} (hc : 0 ≤ c ∧ c ≤ 1000) : Sp E 22 [.ref 44, .int (J c)] (RS h p f) hr n Q ↔ Q (none, RS h (xp b t c p f) (xf b t c p f), hr, n) := by
  rw [s22 F hn T hp hf hc]
  unfold xp xf
  by_cases g : f = -1 ∧ bt b t p = c
  · rw [if_pos g, if_pos g, if_pos g]
  · rw [if_neg g, if_neg g, if_neg g]
theorem x225 (F : FH hr) (hn : 775 ≤ n) (T : TpM h t b) (hp : 0 ≤ a ∧ a ≤ 100000) (hf : -1 ≤ w ∧ w ≤ 100000) {c : Int} (hc : 0 ≤ c ∧ c ≤ 1000) : Sp E 225 [.ref 704, .int (J c)] (MS h a w) hr n Q ↔ Q (none, MS h (xp b t c a w) (xf b t c a w), hr, n) := by
  rw [s225 F hn T hp hf hc]
  unfold xp xf
  by_cases g : w = -1 ∧ bt b t a = c
  · rw [if_pos g, if_pos g, if_pos g]
  · rw [if_neg g, if_neg g, if_neg g]
theorem x_b {c : Int} (hc : 0 ≤ c) (hp : 0 ≤ p) : (p ≤ xp b t c p f ∧ xp b t c p f ≤ p + 1) ∧ (xp b t c p f = p + 1 → p < t ∧ f = -1 ∧ bt b t p = c) ∧ (xf b t c p f = -1 → xp b t c p f = p + 1) ∧ (f ≠ -1 → xf b t c p f = f) ∧ (f = -1 → xf b t c p f = -1 ∨ xf b t c p f = p) := by
  unfold xp xf
  by_cases g : f = -1 ∧ bt b t p = c
  · have := bt_in (b := b) (t := t) (i := p) (by omega)
    rw [if_pos g, if_pos g]
    omega
  · rw [if_neg g, if_neg g]
    unfold rf
    refine ⟨by omega, by omega, fun q => ?_, fun q => if_neg q, fun q => ?_⟩
    · split at q
      · omega
      · omega
    · rw [if_pos q]
      exact Or.inr rfl
theorem numM_f {bl : Bool} {lo hi : Int} (e : w ≠ -1) : numM b t bl lo hi a w = (lo, a, w) := by
  unfold numM
  rw [if_neg e]
theorem rp_rel (hb : ∀ i, 0 ≤ b i ∧ b i ≤ 255) (ht : 0 ≤ t ∧ t ≤ 1600) (hp : 0 ≤ p ∧ p ≤ 1650) : (rpM b t i X Y p).2.2.2 = (rpC b t i X Y p).2.2.2 ∧ ((rpC b t i X Y p).2.2.2 = -1 → rpM b t i X Y p = rpC b t i X Y p ∧ i ≠ 10 ∧ (0 ≤ (rpC b t i X Y p).1 ∧ (rpC b t i X Y p).1 ≤ 47) ∧ (0 ≤ (rpC b t i X Y p).2.1 ∧ (rpC b t i X Y p).2.1 ≤ 31) ∧ p < (rpC b t i X Y p).2.2.1 ∧ (rpC b t i X Y p).2.2.1 ≤ t) := by
  unfold rpM rpC
  dsimp only
  by_cases e0 : i = 10
  · rw [if_pos e0]
    have hpn : p ≠ -1 := by omega
    have n1 := num_f (b := b) (t := t) (lo := 0) (hi := 47) (p := p) hpn
    have nb := num_b (t := t) (f := p) hb ht 0 47 (show 0 ≤ p ∧ p ≤ 1700 by omega) (by omega)
    rw [numM_f hpn]
    dsimp only
    generalize numC b t 0 47 p p = nx at n1 nb ⊢
    rw [n1]
    have x1 := (x_b (b := b) (t := t) (f := p) (p := nx.2.1) (c := 44) (by decide) (by omega)).2.2.2.1 hpn
    have x2 := (x_b (b := b) (t := t) (f := p) (p := p) (c := 44) (by decide) (by omega)).2.2.2.1 hpn
    rw [x1, x2, numM_f hpn, num_f hpn, rf_n hpn]
    dsimp only
    rw [if_neg (fun q => hpn q.1)]
    refine ⟨?_, fun q => ?_⟩
    · split <;> rfl
    · split at q <;> exact absurd q hpn
  · rw [if_neg e0]
    obtain ⟨r1, r2⟩ := num_rel (b := b) (t := t) hb (lo := 0) (hi := 47) hp.1
    have nb := num_b (t := t) (f := -1) hb ht 0 47 (show 0 ≤ p ∧ p ≤ 1700 by omega) (Or.inl rfl)
    by_cases e1 : (numC b t 0 47 p (-1)).2.2 = -1
    · obtain ⟨r3, r4, r5, r6⟩ := r2 e1
      rw [r3]
      generalize numC b t 0 47 p (-1) = nx at e1 nb r4 r5 r6 ⊢
      rw [e1]
      by_cases e2 : bt b t nx.2.1 = 44
      · have hin := bt_in (b := b) (t := t) (i := nx.2.1) (by omega)
        have y1 : xp b t 44 nx.2.1 (-1) = nx.2.1 + 1 := if_pos ⟨rfl, e2⟩
        have y2 : xf b t 44 nx.2.1 (-1) = -1 := if_pos ⟨rfl, e2⟩
        rw [y1, y2]
        obtain ⟨s1, s2⟩ := num_rel (b := b) (t := t) hb (lo := 0) (hi := 31) (p := nx.2.1 + 1) (by omega)
        by_cases e3 : (numC b t 0 31 (nx.2.1 + 1) (-1)).2.2 = -1
        · obtain ⟨s3, s4, s5, s6⟩ := s2 e3
          rw [s3]
          generalize numC b t 0 31 (nx.2.1 + 1) (-1) = ny at e3 s4 s5 s6 ⊢
          rw [e3, rf_y]
          by_cases e4 : 0 < i ∧ X (i - 1) = nx.1 ∧ Y (i - 1) = ny.1
          · rw [if_pos ⟨rfl, e4⟩, if_pos e4]
            exact ⟨rfl, fun q => by omega⟩
          · rw [if_neg (fun q => e4 q.2), if_neg e4]
            exact ⟨rfl, fun _ => ⟨rfl, e0, by omega, by omega, by omega, by omega⟩⟩
        · rw [s1, rf_n e3, if_neg (fun q => e3 q.1)]
          refine ⟨?_, fun q => ?_⟩
          · split <;> rfl
          · split at q <;> exact absurd q e3
      · have y1 : xp b t 44 nx.2.1 (-1) = nx.2.1 := if_neg (fun q => e2 q.2)
        have y2 : xf b t 44 nx.2.1 (-1) = nx.2.1 := if_neg (fun q => e2 q.2)
        have hpn : nx.2.1 ≠ -1 := by omega
        rw [y1, y2, numM_f hpn, num_f hpn, rf_n hpn]
        dsimp only
        rw [if_neg (fun q => hpn q.1)]
        refine ⟨?_, fun q => ?_⟩
        · split <;> rfl
        · split at q <;> exact absurd q hpn
    · have e1' : (numM b t false 0 47 p (-1)).2.2 ≠ -1 := by rw [r1]; exact e1
      generalize numM b t false 0 47 p (-1) = mx at r1 r2 e1' ⊢
      generalize numC b t 0 47 p (-1) = nx at r1 r2 e1 nb ⊢
      have hm : 0 ≤ mx.2.1 ∨ mx.2.1 < 0 := by omega
      have x1 : xf b t 44 nx.2.1 nx.2.2 = nx.2.2 := by unfold xf; rw [if_neg (fun q => e1 q.1), rf_n e1]
      have x2 : xf b t 44 mx.2.1 mx.2.2 = mx.2.2 := by unfold xf; rw [if_neg (fun q => e1' q.1), rf_n e1']
      rw [x1, x2, numM_f e1', num_f e1, rf_n e1]
      dsimp only
      rw [if_neg (fun q => e1' q.1), r1]
      refine ⟨?_, fun q => ?_⟩
      · split <;> rfl
      · split at q <;> exact absurd q e1
theorem rpC_b (hb : ∀ i, 0 ≤ b i ∧ b i ≤ 255) (ht : 0 ≤ t ∧ t ≤ 1600) (hp : 0 ≤ p ∧ p ≤ 1650) : (0 ≤ (rpC b t i X Y p).2.2.1 ∧ (rpC b t i X Y p).2.2.1 ≤ 1652) ∧ ((rpC b t i X Y p).2.2.2 = -1 ∨ 0 ≤ (rpC b t i X Y p).2.2.2 ∧ (rpC b t i X Y p).2.2.2 ≤ 1700) := by
  unfold rpC
  dsimp only
  have hf : (if i = 10 then p else -1) = -1 ∨ 0 ≤ (if i = 10 then p else -1) ∧ (if i = 10 then p else -1) ≤ 1700 := by split <;> omega
  generalize (if i = 10 then p else -1) = f1 at hf ⊢
  have nb := num_b (t := t) (f := f1) hb ht 0 47 (show 0 ≤ p ∧ p ≤ 1700 by omega) hf
  generalize numC b t 0 47 p f1 = nx at nb ⊢
  have x1 := x_b (b := b) (t := t) (f := nx.2.2) (p := nx.2.1) (c := 44) (by decide) (by omega)
  have hf2 : xf b t 44 nx.2.1 nx.2.2 = -1 ∨ 0 ≤ xf b t 44 nx.2.1 nx.2.2 ∧ xf b t 44 nx.2.1 nx.2.2 ≤ 1700 := by
    by_cases q : nx.2.2 = -1
    · have := x1.2.2.2.2 q
      omega
    · have := x1.2.2.2.1 q
      omega
  have nb2 := num_b (t := t) (f := xf b t 44 nx.2.1 nx.2.2) hb ht 0 31 (p := xp b t 44 nx.2.1 nx.2.2) (by omega) hf2
  generalize numC b t 0 31 (xp b t 44 nx.2.1 nx.2.2) (xf b t 44 nx.2.1 nx.2.2) = ny at nb2 ⊢
  refine ⟨by omega, ?_⟩
  unfold rf
  repeat' split
  all_goals omega
/-- points of a stroke that is read -/
def Rp (h : AHi) (a : Nat) (i : Int) (X Y : Int → Int) : Prop := h a 1 = J i ∧ ∀ j, 0 ≤ j → j < i → gA h (a + 1) j = J (X j) ∧ gA h (a + 2) j = J (Y j)
/-- the cells of a stroke of the class -/
def Sa (a x k : Nat) : Prop := a ≤ x ∧ x ≤ a + 2
theorem w112 (F : FH hr) (hn : 775 ≤ n) {a : Nat} (A : SB a) (T : TpC h t b) (hp : 0 ≤ p ∧ p ≤ 1650) (hi : 0 ≤ i ∧ i ≤ 10) (hX : ∀ j, 0 ≤ X j ∧ X j ≤ 47) (hY : ∀ j, 0 ≤ Y j ∧ Y j ≤ 31) (R : Rp h a i X Y)
    (k : ∀ h', Ef (Sa a) h h' → (i < 10 → Rp h' a (i + 1) (upd1 X i (rpC b t i X Y p).1) (upd1 Y i (rpC b t i X Y p).2.1)) → h' a 0 = h a 0 → (∃ i', 0 ≤ i' ∧ i' ≤ 10 ∧ h' a 1 = J i') → Q (none, RS h' (rpC b t i X Y p).2.2.1 (rpC b t i X Y p).2.2.2, hr, n)) : Sp E 112 [.ref a, .ref 44] (RS h p (-1)) hr n Q := by
  have x1 := A.x E F
  have x2 := A.r
  have t1 := T.1
  have c1 : RS h p (-1) a 1 = J i := by rw [RS_o (by omega)]; exact R.1
  unfold rpC at k
  dsimp only at k
  have start : ∀ f1, f1 = (if i = 10 then p else -1) → Tm E 112 (a_bl 112 1) [.ref a, .ref 44, .int (J p), a_mk, a_mk] [] (RS h p f1) hr n Q := fun f1 hf1 => by
    rw [← hf1] at k
    have hf : f1 = -1 ∨ 0 ≤ f1 ∧ f1 ≤ 1700 := by rw [hf1]; split <;> omega
    have nb := num_b (t := t) (f := f1) T.2.1 T.1 0 47 (show 0 ≤ p ∧ p ≤ 1700 by omega) hf
    simp +decide (maxSteps := 4000000) (disch := omega) only [k112_0, k112_1, k112_r, k112_s, F_al1, T_getI, F_is2i, F_is2r, F_is2m, F_al0, T_I, T_iclt, F_il2, T_ft, F_is3i, F_is3r, F_is3m, F_is4i, F_is4r, F_is4m, F_il3, F_il4, J_ifeq, T_ret, c14, c18, c22, c113, c114, ↓s18, ↓s14 F hn T, RX, TK, lt_run hn, le43, Int.le_refl, Int.lt_irrefl, Option.some.injEq, exists_eq_left', true_and, and_true, if_true, if_false, decide_eq_false_iff_not, decide_eq_true_eq, Nat.reduceAdd, Nat.reduceLeDiff, Nat.reduceLT, Int.reduceAdd, Int.reduceSub, Int.reduceMul, Int.reduceNeg, not_true_eq_false, not_false_eq_true]
    generalize numC b t 0 47 p f1 = nx at nb k ⊢
    rw [x22 F hn T (by omega) (by omega) (by decide)]
    have x1' := x_b (b := b) (t := t) (f := nx.2.2) (p := nx.2.1) (c := 44) (by decide) (by omega)
    have hf2 : xf b t 44 nx.2.1 nx.2.2 = -1 ∨ 0 ≤ xf b t 44 nx.2.1 nx.2.2 ∧ xf b t 44 nx.2.1 nx.2.2 ≤ 1700 := by
      by_cases q : nx.2.2 = -1
      · have := x1'.2.2.2.2 q
        omega
      · have := x1'.2.2.2.1 q
        omega
    have nb2 := num_b (t := t) (f := xf b t 44 nx.2.1 nx.2.2) T.2.1 T.1 0 31 (p := xp b t 44 nx.2.1 nx.2.2) (by omega) hf2
    simp +decide (maxSteps := 4000000) (disch := omega) only [k112_0, k112_1, k112_r, k112_s, F_al1, T_getI, F_is2i, F_is2r, F_is2m, F_al0, T_I, T_iclt, F_il2, T_ft, F_is3i, F_is3r, F_is3m, F_is4i, F_is4r, F_is4m, F_il3, F_il4, J_ifeq, T_ret, c14, c18, c22, c113, c114, ↓s18, ↓s14 F hn T, RX, TK, lt_run hn, le43, Int.le_refl, Int.lt_irrefl, Option.some.injEq, exists_eq_left', true_and, and_true, if_true, if_false, decide_eq_false_iff_not, decide_eq_true_eq, Nat.reduceAdd, Nat.reduceLeDiff, Nat.reduceLT, Int.reduceAdd, Int.reduceSub, Int.reduceMul, Int.reduceNeg, not_true_eq_false, not_false_eq_true]
    generalize numC b t 0 31 (xp b t 44 nx.2.1 nx.2.2) (xf b t 44 nx.2.1 nx.2.2) = ny at nb2 k ⊢
    have fin : ∀ f5, f5 = (if 0 < i ∧ X (i - 1) = nx.1 ∧ Y (i - 1) = ny.1 then rf ny.2.2 p else ny.2.2) → Tm E 112 (a_bl 112 2) [.ref a, .ref 44, .int (J p), .int (J nx.1), .int (J ny.1)] [] (RS h ny.2.1 f5) hr n Q := fun f5 hf5 => by
      rw [← hf5] at k
      have c2 : RS h ny.2.1 f5 a 1 = J i := by rw [RS_o (by omega)]; exact R.1
      simp +decide (maxSteps := 4000000) (disch := omega) only [k112_0, k112_1, k112_2, k112_r, k112_s, F_al1, T_getI, F_is2i, F_is2r, F_is2m, F_al0, T_I, T_iclt, F_il2, T_ft, F_is3i, F_is3r, F_is3m, F_is4i, F_is4r, F_is4m, F_il3, F_il4, J_ifeq, T_ret, c14, c18, c22, c113, c114, ↓s14, ↓s18, ↓s22, x1, TK, lt_run hn, le43, Int.le_refl, Int.lt_irrefl, Option.some.injEq, exists_eq_left', true_and, and_true, if_true, if_false, decide_eq_false_iff_not, decide_eq_true_eq, Nat.reduceAdd, Nat.reduceLeDiff, Nat.reduceLT, Int.reduceAdd, Int.reduceSub, Int.reduceMul, Int.reduceNeg, not_true_eq_false, not_false_eq_true]
      by_cases g : i < 10
      · have c3 : sA (RS h ny.2.1 f5) (a + 1) i (J nx.1) a 1 = J i := by rw [sA_o (by omega)]; exact c2
        have c4 : sA (sA (RS h ny.2.1 f5) (a + 1) i (J nx.1)) (a + 2) i (J ny.1) a 1 = J i := by rw [sA_o (by omega)]; exact c3
        simp +decide (maxSteps := 4000000) (disch := omega) only [k114_0, k114_1, k114_r, k114_s, F_al0, T_getI, T_I, T_icge, T_getR, F_il1, T_iast, F_il2, T_dupI, T_dupR, T_add, T_putI, T_putZ, T_ft, T_ret, x1, c2, c3, c4, show ¬ 10 ≤ i by omega, TK, lt_run hn, le43, Int.le_refl, Int.lt_irrefl, Option.some.injEq, exists_eq_left', true_and, and_true, if_true, if_false, decide_eq_false_iff_not, decide_eq_true_eq, Nat.reduceAdd, Nat.reduceLeDiff, Nat.reduceLT, Int.reduceAdd, Int.reduceSub, Int.reduceMul, Int.reduceNeg, not_true_eq_false, not_false_eq_true]
        try simp +decide (maxSteps := 4000000) (disch := omega) only [k112_0, k112_1, k112_2, k112_r, k112_s, F_al1, T_getI, F_is2i, F_is2r, F_is2m, F_al0, T_I, T_iclt, F_il2, T_ft, F_is3i, F_is3r, F_is3m, F_is4i, F_is4r, F_is4m, F_il3, F_il4, J_ifeq, T_ret, c14, c18, c22, c113, c114, ↓s14, ↓s18, ↓s22, TK, lt_run hn, le43, Int.le_refl, Int.lt_irrefl, Option.some.injEq, exists_eq_left', true_and, and_true, if_true, if_false, decide_eq_false_iff_not, decide_eq_true_eq, Nat.reduceAdd, Nat.reduceLeDiff, Nat.reduceLT, Int.reduceAdd, Int.reduceSub, Int.reduceMul, Int.reduceNeg, not_true_eq_false, not_false_eq_true]
        rw [RS_d (by omega), RS_d (by omega), RS_c (by omega)]
        refine k _ (Ef.hI (Ef.sA (Ef.sA Ef.refl ⟨by omega, by omega⟩) ⟨by omega, by omega⟩) ⟨by omega, by omega⟩) (fun _ => ⟨hI_s, fun j j0 j1 => ?_⟩) ?_ ⟨i + 1, by omega, by omega, hI_s⟩
        · unfold upd1
          rw [gA_o (by omega), gA_o (by omega), gs_o (by omega)]
          by_cases e : j = i
          · subst e
            rw [gs_s, gs_s, if_pos rfl, if_pos rfl]
            exact ⟨rfl, rfl⟩
          · rw [gs_k hi.1 j0 e, gs_k hi.1 j0 e, gs_o (by omega), if_neg e, if_neg e]
            exact R.2 j j0 (by omega)
        · rw [hI_k (by decide), sA_o (by omega), sA_o (by omega)]
      · simp +decide (maxSteps := 4000000) (disch := omega) only [k114_0, k114_1, k114_r, k114_s, F_al0, T_getI, T_I, T_icge, T_getR, F_il1, T_iast, F_il2, T_dupI, T_dupR, T_add, T_putI, T_putZ, T_ft, T_ret, x1, c2, show 10 ≤ i by omega, TK, lt_run hn, le43, Int.le_refl, Int.lt_irrefl, Option.some.injEq, exists_eq_left', true_and, and_true, if_true, if_false, decide_eq_false_iff_not, decide_eq_true_eq, Nat.reduceAdd, Nat.reduceLeDiff, Nat.reduceLT, Int.reduceAdd, Int.reduceSub, Int.reduceMul, Int.reduceNeg, not_true_eq_false, not_false_eq_true]
        try simp +decide (maxSteps := 4000000) (disch := omega) only [k112_0, k112_1, k112_2, k112_r, k112_s, F_al1, T_getI, F_is2i, F_is2r, F_is2m, F_al0, T_I, T_iclt, F_il2, T_ft, F_is3i, F_is3r, F_is3m, F_is4i, F_is4r, F_is4m, F_il3, F_il4, J_ifeq, T_ret, c14, c18, c22, c113, c114, ↓s14, ↓s18, ↓s22, TK, lt_run hn, le43, Int.le_refl, Int.lt_irrefl, Option.some.injEq, exists_eq_left', true_and, and_true, if_true, if_false, decide_eq_false_iff_not, decide_eq_true_eq, Nat.reduceAdd, Nat.reduceLeDiff, Nat.reduceLT, Int.reduceAdd, Int.reduceSub, Int.reduceMul, Int.reduceNeg, not_true_eq_false, not_false_eq_true]
        exact k h Ef.refl (fun q => absurd q g) rfl ⟨i, by omega, by omega, R.1⟩
    have c2 : RS h ny.2.1 ny.2.2 a 1 = J i := by rw [RS_o (by omega)]; exact R.1
    by_cases g : 0 < i
    · have r1 := R.2 (i - 1) (by omega) (by omega)
      have r2 : gA (RS h ny.2.1 ny.2.2) (a + 1) (i - 1) = J (X (i - 1)) := by rw [RS_g (by omega)]; exact r1.1
      have r3 : gA (RS h ny.2.1 ny.2.2) (a + 2) (i - 1) = J (Y (i - 1)) := by rw [RS_g (by omega)]; exact r1.2
      have bx := hX (i - 1)
      have bY := hY (i - 1)
      by_cases g1 : X (i - 1) = nx.1
      · by_cases g2 : Y (i - 1) = ny.1
        · simp +decide (maxSteps := 4000000) (disch := omega) only [k113_0, k113_1, k113_2, k113_r, k113_s, F_al0, T_getI, J_ifle, T_getR, T_I, T_sub, X_iald, F_il1, J_icne, F_il2, T_goto, T_ft, T_ret, x1, c2, r2, r3, g1, g2, show ¬ i ≤ 0 by omega, TK, lt_run hn, le43, Int.le_refl, Int.lt_irrefl, Option.some.injEq, exists_eq_left', true_and, and_true, if_true, if_false, decide_eq_false_iff_not, decide_eq_true_eq, Nat.reduceAdd, Nat.reduceLeDiff, Nat.reduceLT, Int.reduceAdd, Int.reduceSub, Int.reduceMul, Int.reduceNeg, not_true_eq_false, not_false_eq_true]
          simp +decide (maxSteps := 4000000) (disch := omega) only [k112_0, k112_1, k112_r, k112_s, F_al1, T_getI, F_is2i, F_is2r, F_is2m, F_al0, T_I, T_iclt, F_il2, T_ft, F_is3i, F_is3r, F_is3m, F_is4i, F_is4r, F_is4m, F_il3, F_il4, J_ifeq, T_ret, c14, c18, c22, c113, c114, ↓s14, ↓s22, ↓s18 F hn, RX, TK, lt_run hn, le43, Int.le_refl, Int.lt_irrefl, Option.some.injEq, exists_eq_left', true_and, and_true, if_true, if_false, decide_eq_false_iff_not, decide_eq_true_eq, Nat.reduceAdd, Nat.reduceLeDiff, Nat.reduceLT, Int.reduceAdd, Int.reduceSub, Int.reduceMul, Int.reduceNeg, not_true_eq_false, not_false_eq_true]
          exact fin _ (by rw [if_pos ⟨g, g1, g2⟩])
        · simp +decide (maxSteps := 4000000) (disch := omega) only [k113_0, k113_1, k113_2, k113_r, k113_s, F_al0, T_getI, J_ifle, T_getR, T_I, T_sub, X_iald, F_il1, J_icne, F_il2, T_goto, T_ft, T_ret, x1, c2, r2, r3, g1, g2, show ¬ i ≤ 0 by omega, TK, lt_run hn, le43, Int.le_refl, Int.lt_irrefl, Option.some.injEq, exists_eq_left', true_and, and_true, if_true, if_false, decide_eq_false_iff_not, decide_eq_true_eq, Nat.reduceAdd, Nat.reduceLeDiff, Nat.reduceLT, Int.reduceAdd, Int.reduceSub, Int.reduceMul, Int.reduceNeg, not_true_eq_false, not_false_eq_true]
          simp +decide (maxSteps := 4000000) (disch := omega) only [k112_0, k112_1, k112_r, k112_s, F_al1, T_getI, F_is2i, F_is2r, F_is2m, F_al0, T_I, T_iclt, F_il2, T_ft, F_is3i, F_is3r, F_is3m, F_is4i, F_is4r, F_is4m, F_il3, F_il4, J_ifeq, T_ret, c14, c18, c22, c113, c114, ↓s14, ↓s22, ↓s18 F hn, RX, TK, lt_run hn, le43, Int.le_refl, Int.lt_irrefl, Option.some.injEq, exists_eq_left', true_and, and_true, if_true, if_false, decide_eq_false_iff_not, decide_eq_true_eq, Nat.reduceAdd, Nat.reduceLeDiff, Nat.reduceLT, Int.reduceAdd, Int.reduceSub, Int.reduceMul, Int.reduceNeg, not_true_eq_false, not_false_eq_true]
          exact fin _ (by rw [if_neg (fun q => g2 q.2.2)])
      · simp +decide (maxSteps := 4000000) (disch := omega) only [k113_0, k113_1, k113_2, k113_r, k113_s, F_al0, T_getI, J_ifle, T_getR, T_I, T_sub, X_iald, F_il1, J_icne, F_il2, T_goto, T_ft, T_ret, x1, c2, r2, r3, g1, show ¬ i ≤ 0 by omega, TK, lt_run hn, le43, Int.le_refl, Int.lt_irrefl, Option.some.injEq, exists_eq_left', true_and, and_true, if_true, if_false, decide_eq_false_iff_not, decide_eq_true_eq, Nat.reduceAdd, Nat.reduceLeDiff, Nat.reduceLT, Int.reduceAdd, Int.reduceSub, Int.reduceMul, Int.reduceNeg, not_true_eq_false, not_false_eq_true]
        simp +decide (maxSteps := 4000000) (disch := omega) only [k112_0, k112_1, k112_r, k112_s, F_al1, T_getI, F_is2i, F_is2r, F_is2m, F_al0, T_I, T_iclt, F_il2, T_ft, F_is3i, F_is3r, F_is3m, F_is4i, F_is4r, F_is4m, F_il3, F_il4, J_ifeq, T_ret, c14, c18, c22, c113, c114, ↓s14, ↓s22, ↓s18 F hn, RX, TK, lt_run hn, le43, Int.le_refl, Int.lt_irrefl, Option.some.injEq, exists_eq_left', true_and, and_true, if_true, if_false, decide_eq_false_iff_not, decide_eq_true_eq, Nat.reduceAdd, Nat.reduceLeDiff, Nat.reduceLT, Int.reduceAdd, Int.reduceSub, Int.reduceMul, Int.reduceNeg, not_true_eq_false, not_false_eq_true]
        exact fin _ (by rw [if_neg (fun q => g1 q.2.1)])
    · simp +decide (maxSteps := 4000000) (disch := omega) only [k113_0, k113_1, k113_2, k113_r, k113_s, F_al0, T_getI, J_ifle, T_getR, T_I, T_sub, X_iald, F_il1, J_icne, F_il2, T_goto, T_ft, T_ret, x1, c2, show i ≤ 0 by omega, TK, lt_run hn, le43, Int.le_refl, Int.lt_irrefl, Option.some.injEq, exists_eq_left', true_and, and_true, if_true, if_false, decide_eq_false_iff_not, decide_eq_true_eq, Nat.reduceAdd, Nat.reduceLeDiff, Nat.reduceLT, Int.reduceAdd, Int.reduceSub, Int.reduceMul, Int.reduceNeg, not_true_eq_false, not_false_eq_true]
      simp +decide (maxSteps := 4000000) (disch := omega) only [k112_0, k112_1, k112_r, k112_s, F_al1, T_getI, F_is2i, F_is2r, F_is2m, F_al0, T_I, T_iclt, F_il2, T_ft, F_is3i, F_is3r, F_is3m, F_is4i, F_is4r, F_is4m, F_il3, F_il4, J_ifeq, T_ret, c14, c18, c22, c113, c114, ↓s14, ↓s22, ↓s18 F hn, RX, TK, lt_run hn, le43, Int.le_refl, Int.lt_irrefl, Option.some.injEq, exists_eq_left', true_and, and_true, if_true, if_false, decide_eq_false_iff_not, decide_eq_true_eq, Nat.reduceAdd, Nat.reduceLeDiff, Nat.reduceLT, Int.reduceAdd, Int.reduceSub, Int.reduceMul, Int.reduceNeg, not_true_eq_false, not_false_eq_true]
      exact fin _ (by rw [if_neg (fun q => g q.1)])
  by_cases g : i = 10
  · simp +decide (maxSteps := 4000000) (disch := omega) only [k112_0, k112_2, k112_r, k112_s, F_al1, T_getI, F_is2i, F_is2r, F_is2m, F_al0, T_I, T_iclt, F_il2, T_ft, F_is3i, F_is3r, F_is3m, F_is4i, F_is4r, F_is4m, F_il3, F_il4, J_ifeq, T_ret, c14, c18, c22, c113, c114, ↓s14, ↓s22, RX, c1, x1, ↓s18 F hn, rf_y, show ¬ i < 10 by omega, TK, lt_run hn, le43, Int.le_refl, Int.lt_irrefl, Option.some.injEq, exists_eq_left', true_and, and_true, if_true, if_false, decide_eq_false_iff_not, decide_eq_true_eq, Nat.reduceAdd, Nat.reduceLeDiff, Nat.reduceLT, Int.reduceAdd, Int.reduceSub, Int.reduceMul, Int.reduceNeg, not_true_eq_false, not_false_eq_true]
    exact start _ (by rw [if_pos g])
  · simp +decide (maxSteps := 4000000) (disch := omega) only [k112_0, k112_2, k112_r, k112_s, F_al1, T_getI, F_is2i, F_is2r, F_is2m, F_al0, T_I, T_iclt, F_il2, T_ft, F_is3i, F_is3r, F_is3m, F_is4i, F_is4r, F_is4m, F_il3, F_il4, J_ifeq, T_ret, c14, c18, c22, c113, c114, ↓s14, ↓s22, RX, c1, x1, ↓s18 F hn, show i < 10 by omega, TK, lt_run hn, le43, Int.le_refl, Int.lt_irrefl, Option.some.injEq, exists_eq_left', true_and, and_true, if_true, if_false, decide_eq_false_iff_not, decide_eq_true_eq, Nat.reduceAdd, Nat.reduceLeDiff, Nat.reduceLT, Int.reduceAdd, Int.reduceSub, Int.reduceMul, Int.reduceNeg, not_true_eq_false, not_false_eq_true]
    exact start _ (by rw [if_neg g])
end RQ
