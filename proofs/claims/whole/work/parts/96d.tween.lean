/-! tween: a stroke between two -/
def tsp (f : Int → Int) (len j l : Int) : Int := if j * (len - 1) % l = 0 then f (j * (len - 1) / l) * l else f (j * (len - 1) / l) * l + (f (j * (len - 1) / l + 1) - f (j * (len - 1) / l)) * (j * (len - 1) % l)
def bwx (f : Int → Int) (p : Int) (g : Int → Int) (q j l a b : Int) : Int := rd (tsp f p j l * (b - a) + tsp g q j l * a) (l * b)
/-- the points so far: how many, x, y -/
def tpt (s o : Stk) (l a b : Int) : Nat → Int × (Int → Int) × (Int → Int)
  | 0 => (0, fun _ => 0, fun _ => 0)
  | j + 1 => if 0 < (tpt s o l a b j).1 ∧ (tpt s o l a b j).2.1 ((tpt s o l a b j).1 - 1) = bwx s.2.2.1 s.2.1 o.2.2.1 o.2.1 j l a b ∧ (tpt s o l a b j).2.2 ((tpt s o l a b j).1 - 1) = bwx s.2.2.2 s.2.1 o.2.2.2 o.2.1 j l a b then tpt s o l a b j else ((tpt s o l a b j).1 + 1, upd1 (tpt s o l a b j).2.1 (tpt s o l a b j).1 (bwx s.2.2.1 s.2.1 o.2.2.1 o.2.1 j l a b), upd1 (tpt s o l a b j).2.2 (tpt s o l a b j).1 (bwx s.2.2.2 s.2.1 o.2.2.2 o.2.1 j l a b))
/-- the last place of the longer of two -/
def btl (s o : Stk) : Int := (if s.2.1 < o.2.1 then o.2.1 else s.2.1) - 1
def btw (s o : Stk) (a b : Int) : Stk := (if 2 * a < b then s.1 else o.1, tpt s o (btl s o) a b (btl s o + 1).toNat)
theorem cvx2 {x y M l r : Int} (hx : 0 ≤ x ∧ x ≤ M) (hy : 0 ≤ y ∧ y ≤ M) (hr : 0 ≤ r ∧ r ≤ l) : 0 ≤ x * l + (y - x) * r ∧ x * l + (y - x) * r ≤ M * l := by
  have e : x * l + (y - x) * r = x * (l - r) + y * r := by grind
  have e2 : M * l = M * (l - r) + M * r := by grind
  have h1 := Int.mul_nonneg hx.1 (show 0 ≤ l - r by omega)
  have h2 := Int.mul_nonneg hy.1 hr.1
  have h3 := Int.mul_le_mul_of_nonneg_right hx.2 (show 0 ≤ l - r by omega)
  have h4 := Int.mul_le_mul_of_nonneg_right hy.2 hr.1
  omega
theorem rd_M {x d M : Int} (hd : 0 < d) (h : 0 ≤ x ∧ x ≤ M * d) : 0 ≤ rd x d ∧ rd x d ≤ M := by
  unfold rd
  have e : (M + 1) * (2 * d) = 2 * (M * d) + 2 * d := by grind
  refine ⟨Int.ediv_nonneg (by omega) (by omega), ?_⟩
  have := Int.ediv_lt_of_lt_mul (a := 2 * x + d) (b := M + 1) (c := 2 * d) (by omega) (by omega)
  omega
/-- the place, and what is left of it -/
theorem tspq {len j l : Int} (hl : 1 ≤ l ∧ l ≤ 9) (hn : 2 ≤ len ∧ len ≤ 10) (hj : 0 ≤ j ∧ j ≤ l) : (0 ≤ j * (len - 1) ∧ j * (len - 1) ≤ 81) ∧ (0 ≤ j * (len - 1) / l ∧ j * (len - 1) / l < len) ∧ (0 ≤ j * (len - 1) % l ∧ j * (len - 1) % l < l) ∧ (j * (len - 1) % l ≠ 0 → j * (len - 1) / l + 1 < len) := by
  have h1 := Int.mul_nonneg hj.1 (show 0 ≤ len - 1 by omega)
  have h2 := Int.mul_le_mul_of_nonneg_right hj.2 (show 0 ≤ len - 1 by omega)
  generalize j * (len - 1) = P at *
  rcases (show l = 1 ∨ l = 2 ∨ l = 3 ∨ l = 4 ∨ l = 5 ∨ l = 6 ∨ l = 7 ∨ l = 8 ∨ l = 9 by omega) with e | e | e | e | e | e | e | e | e
  all_goals
    subst e
    omega
theorem tsp_r {f : Int → Int} {len j l M : Int} (hf : ∀ i, 0 ≤ f i ∧ f i ≤ M) (hl : 1 ≤ l ∧ l ≤ 9) (hn : 2 ≤ len ∧ len ≤ 10) (hj : 0 ≤ j ∧ j ≤ l) : 0 ≤ tsp f len j l ∧ tsp f len j l ≤ M * l := by
  obtain ⟨_, _, q3, _⟩ := tspq hl hn hj
  have c := cvx2 (r := j * (len - 1) % l) (l := l) (hf (j * (len - 1) / l)) (hf (j * (len - 1) / l + 1)) (by omega)
  have d := cvx2 (r := 0) (l := l) (hf (j * (len - 1) / l)) (hf (j * (len - 1) / l + 1)) (by omega)
  rw [Int.mul_zero, Int.add_zero] at d
  unfold tsp
  split
  · exact d
  · exact c
theorem bwx_s (f : Int → Int) (p : Int) (g : Int → Int) (q j l a b : Int) : tsp f p j l * (b - a) + tsp g q j l * a = tsp f p j l * b + (tsp g q j l - tsp f p j l) * a := by grind
theorem bwx_r {f g : Int → Int} {p q j l a b M : Int} (hf : ∀ i, 0 ≤ f i ∧ f i ≤ M) (hg : ∀ i, 0 ≤ g i ∧ g i ≤ M) (hl : 1 ≤ l ∧ l ≤ 9) (hp : 2 ≤ p ∧ p ≤ 10) (hq : 2 ≤ q ∧ q ≤ 10) (hj : 0 ≤ j ∧ j ≤ l) (ha : 0 ≤ a ∧ a ≤ b) (hb : 1 ≤ b) : (0 ≤ bwx f p g q j l a b ∧ bwx f p g q j l a b ≤ M) ∧ 0 ≤ tsp f p j l * (b - a) + tsp g q j l * a ∧ tsp f p j l * (b - a) + tsp g q j l * a ≤ M * (l * b) := by
  have h1 := tsp_r hf hl hp hj
  have h2 := tsp_r hg hl hq hj
  have h3 := cvx2 h1 h2 ha
  rw [← bwx_s, Int.mul_assoc] at h3
  refine ⟨?_, h3⟩
  unfold bwx
  exact rd_M (Int.mul_pos (by omega) (by omega)) h3
theorem tpt_s {s o : Stk} {l a b j : Int} (h : 0 ≤ j) : tpt s o l a b (j + 1).toNat = if 0 < (tpt s o l a b j.toNat).1 ∧ (tpt s o l a b j.toNat).2.1 ((tpt s o l a b j.toNat).1 - 1) = bwx s.2.2.1 s.2.1 o.2.2.1 o.2.1 j l a b ∧ (tpt s o l a b j.toNat).2.2 ((tpt s o l a b j.toNat).1 - 1) = bwx s.2.2.2 s.2.1 o.2.2.2 o.2.1 j l a b then tpt s o l a b j.toNat else ((tpt s o l a b j.toNat).1 + 1, upd1 (tpt s o l a b j.toNat).2.1 (tpt s o l a b j.toNat).1 (bwx s.2.2.1 s.2.1 o.2.2.1 o.2.1 j l a b), upd1 (tpt s o l a b j.toNat).2.2 (tpt s o l a b j.toNat).1 (bwx s.2.2.2 s.2.1 o.2.2.2 o.2.1 j l a b)) := by
  rw [show (j + 1).toNat = j.toNat + 1 by omega]
  show (if 0 < (tpt s o l a b j.toNat).1 ∧ (tpt s o l a b j.toNat).2.1 ((tpt s o l a b j.toNat).1 - 1) = bwx s.2.2.1 s.2.1 o.2.2.1 o.2.1 (j.toNat : Int) l a b ∧ (tpt s o l a b j.toNat).2.2 ((tpt s o l a b j.toNat).1 - 1) = bwx s.2.2.2 s.2.1 o.2.2.2 o.2.1 (j.toNat : Int) l a b then tpt s o l a b j.toNat else ((tpt s o l a b j.toNat).1 + 1, upd1 (tpt s o l a b j.toNat).2.1 (tpt s o l a b j.toNat).1 (bwx s.2.2.1 s.2.1 o.2.2.1 o.2.1 (j.toNat : Int) l a b), upd1 (tpt s o l a b j.toNat).2.2 (tpt s o l a b j.toNat).1 (bwx s.2.2.2 s.2.1 o.2.2.2 o.2.1 (j.toNat : Int) l a b))) = _
  rw [Int.toNat_of_nonneg h]
/-- what is asked of two strokes -/
def bH (s o : Stk) (l a b : Int) : Prop := SR s ∧ SR o ∧ (1 ≤ l ∧ l ≤ 9) ∧ (0 ≤ a ∧ a ≤ b) ∧ 1 ≤ b ∧ b ≤ 24
theorem tpt_r {s o : Stk} {l a b : Int} (H : bH s o l a b) : ∀ j : Nat, (j : Int) ≤ l + 1 → (0 ≤ (tpt s o l a b j).1 ∧ (tpt s o l a b j).1 ≤ j) ∧ (∀ i, 0 ≤ (tpt s o l a b j).2.1 i ∧ (tpt s o l a b j).2.1 i ≤ 47) ∧ ∀ i, 0 ≤ (tpt s o l a b j).2.2 i ∧ (tpt s o l a b j).2.2 i ≤ 31 := by
  obtain ⟨R, R', hl, ha, hb⟩ := H
  intro j
  induction j with
  | zero => exact fun _ => ⟨⟨Int.le_refl _, Int.le_refl _⟩, fun i => ⟨Int.le_refl _, by show (0 : Int) ≤ 47; decide⟩, fun i => ⟨Int.le_refl _, by show (0 : Int) ≤ 31; decide⟩⟩
  | succ j ih =>
    intro hj
    obtain ⟨i1, i2, i3⟩ := ih (by omega)
    have b1 := (bwx_r (j := j) (l := l) (a := a) (b := b) (M := 47) (fun i => (R.2.2 i).1) (fun i => (R'.2.2 i).1) hl R.2.1 R'.2.1 (by omega) ha hb.1).1
    have b2 := (bwx_r (j := j) (l := l) (a := a) (b := b) (M := 31) (fun i => (R.2.2 i).2) (fun i => (R'.2.2 i).2) hl R.2.1 R'.2.1 (by omega) ha hb.1).1
    have e := tpt_s (s := s) (o := o) (l := l) (a := a) (b := b) (j := j) (by omega)
    rw [show ((j : Int) + 1).toNat = j + 1 by omega, Int.toNat_natCast] at e
    rw [e]
    split
    · exact ⟨by omega, i2, i3⟩
    · exact ⟨by dsimp only; omega, upd_b i2 b1 _, upd_b i3 b2 _⟩
theorem btl_r {s o : Stk} (R : SR s) (R' : SR o) : 1 ≤ btl s o ∧ btl s o ≤ 9 := by
  have := R.2.1
  have := R'.2.1
  unfold btl
  split <;> omega
theorem btw_r {s o : Stk} {a b : Int} (R : SR s) (R' : SR o) (ha : 0 ≤ a ∧ a ≤ b) (hb : 1 ≤ b ∧ b ≤ 24) : (0 ≤ (btw s o a b).2.1 ∧ (btw s o a b).2.1 ≤ 10) ∧ (2 ≤ (btw s o a b).2.1 → SR (btw s o a b)) := by
  have l := btl_r R R'
  obtain ⟨i1, i2, i3⟩ := tpt_r (s := s) (o := o) (l := btl s o) (a := a) (b := b) ⟨R, R', l, ha, hb⟩ (btl s o + 1).toNat (by omega)
  have e : (btw s o a b).2 = tpt s o (btl s o) a b (btl s o + 1).toNat := rfl
  have e1 : (btw s o a b).1 = if 2 * a < b then s.1 else o.1 := rfl
  unfold SR
  rw [e, e1]
  refine ⟨by omega, fun h => ⟨?_, ⟨h, by omega⟩, fun j => ⟨i2 j, i3 j⟩⟩⟩
  split
  · exact R.1
  · exact R'.1
section TA
variable {E : AEn} {h h' : AHi} {hr : AHr} {n : Nat} {Q : ARs → Prop} {s o : Stk} {f : Int → Int} {len j l a b m : Int} {X Y : Int → Int}
theorem s130 (hn : 775 ≤ n) {r : Nat} (r1 : a_kd r = 20) (r2 : a_ln E r = 10) (r3 : 43 ≤ r ∧ r < 775) (hf : ∀ i, 0 ≤ f i ∧ f i ≤ 47) (hl : 1 ≤ l ∧ l ≤ 9) (hp : 2 ≤ len ∧ len ≤ 10) (hj : 0 ≤ j ∧ j ≤ l) (c : ∀ i, 0 ≤ i → i < len → gA h r i = J (f i)) : Sp E 130 [.ref r, .int (J len), .int (J j), .int (J l)] h hr n Q ↔ Q (some (.int (J (tsp f len j l))), h, hr, n) := by
  obtain ⟨q1, q2, q3, q4⟩ := tspq hl hp hj
  have d1 := c _ q2.1 q2.2
  have ln := eq_true (J_n0 (a := l) (by omega))
  unfold tsp
  by_cases g : j * (len - 1) % l = 0
  · rw [if_pos g]
    simp +decide (maxSteps := 4000000) (disch := omega) only [k130_0, k130_1, k130_2, k130_3, k130_r, k130_s, F_il3, J_ifgt, T_I, T_ret, F_il2, F_il1, T_sub, T_mul, T_div, F_is4i, F_is4r, F_is4m, T_rem, F_is5i, F_is5r, F_is5m, F_il5, J_ifne, F_al0, F_il4, X_iald, T_goto, T_add, T_ft, r1, r2, d1, g, ln, J_divp, J_remp, show 0 < l by omega, ↓reduceIte, TK, lt_run hn, le43, Int.le_refl, Int.lt_irrefl, Option.some.injEq, exists_eq_left', true_and, and_true, if_true, if_false, decide_eq_false_iff_not, decide_eq_true_eq, Nat.reduceAdd, Nat.reduceLeDiff, Nat.reduceLT, Int.reduceAdd, Int.reduceSub, Int.reduceMul, Int.reduceNeg, not_true_eq_false, not_false_eq_true]
  · rw [if_neg g]
    have d2 := c _ (show 0 ≤ j * (len - 1) / l + 1 by omega) (q4 g)
    simp +decide (maxSteps := 4000000) (disch := omega) only [k130_0, k130_1, k130_2, k130_3, k130_r, k130_s, F_il3, J_ifgt, T_I, T_ret, F_il2, F_il1, T_sub, T_mul, T_div, F_is4i, F_is4r, F_is4m, T_rem, F_is5i, F_is5r, F_is5m, F_il5, J_ifne, F_al0, F_il4, X_iald, T_goto, T_add, T_ft, r1, r2, d1, d2, g, ln, J_divp, J_remp, show 0 < l by omega, ↓reduceIte, TK, lt_run hn, le43, Int.le_refl, Int.lt_irrefl, Option.some.injEq, exists_eq_left', true_and, and_true, if_true, if_false, decide_eq_false_iff_not, decide_eq_true_eq, Nat.reduceAdd, Nat.reduceLeDiff, Nat.reduceLT, Int.reduceAdd, Int.reduceSub, Int.reduceMul, Int.reduceNeg, not_true_eq_false, not_false_eq_true]
theorem s113 (F : FH hr) (hn : 775 ≤ n) {t : Nat} (A : SB t) (hm : 0 ≤ m ∧ m ≤ 10) (hX : ∀ j, 0 ≤ X j ∧ X j ≤ 47) (hY : ∀ j, 0 ≤ Y j ∧ Y j ≤ 31) {x y : Int} (hx : 0 ≤ x ∧ x ≤ 47) (hy : 0 ≤ y ∧ y ≤ 31) (R : Rp h t m X Y) : Sp E 113 [.ref t, .int (J x), .int (J y)] h hr n Q ↔ Q (some (.int (Bz (decide (0 < m ∧ X (m - 1) = x ∧ Y (m - 1) = y)))), h, hr, n) := by
  have x1 := A.x E F
  have x2 := A.r
  have d := R.1
  by_cases g : 0 < m
  · have r1 := R.2 (m - 1) (by omega) (by omega)
    have bx := hX (m - 1)
    have bY := hY (m - 1)
    by_cases g1 : X (m - 1) = x
    · by_cases g2 : Y (m - 1) = y
      · rw [decide_eq_true ⟨g, g1, g2⟩]
        simp +decide (maxSteps := 4000000) (disch := omega) only [k113_0, k113_1, k113_2, k113_r, k113_s, F_al0, T_getI, J_ifle, T_getR, T_I, T_sub, X_iald, F_il1, J_icne, F_il2, T_goto, T_ft, T_ret, x1, d, r1, g1, g2, show ¬ m ≤ 0 by omega, ↓reduceIte, TK, lt_run hn, le43, Int.le_refl, Int.lt_irrefl, Option.some.injEq, exists_eq_left', true_and, and_true, if_true, if_false, decide_eq_false_iff_not, decide_eq_true_eq, Nat.reduceAdd, Nat.reduceLeDiff, Nat.reduceLT, Int.reduceAdd, Int.reduceSub, Int.reduceMul, Int.reduceNeg, not_true_eq_false, not_false_eq_true]
        exact Iff.rfl
      · rw [decide_eq_false (fun z => g2 z.2.2)]
        simp +decide (maxSteps := 4000000) (disch := omega) only [k113_0, k113_1, k113_2, k113_r, k113_s, F_al0, T_getI, J_ifle, T_getR, T_I, T_sub, X_iald, F_il1, J_icne, F_il2, T_goto, T_ft, T_ret, x1, d, r1, g1, g2, show ¬ m ≤ 0 by omega, ↓reduceIte, TK, lt_run hn, le43, Int.le_refl, Int.lt_irrefl, Option.some.injEq, exists_eq_left', true_and, and_true, if_true, if_false, decide_eq_false_iff_not, decide_eq_true_eq, Nat.reduceAdd, Nat.reduceLeDiff, Nat.reduceLT, Int.reduceAdd, Int.reduceSub, Int.reduceMul, Int.reduceNeg, not_true_eq_false, not_false_eq_true]
        exact Iff.rfl
    · rw [decide_eq_false (fun z => g1 z.2.1)]
      simp +decide (maxSteps := 4000000) (disch := omega) only [k113_0, k113_1, k113_2, k113_r, k113_s, F_al0, T_getI, J_ifle, T_getR, T_I, T_sub, X_iald, F_il1, J_icne, F_il2, T_goto, T_ft, T_ret, x1, d, r1, g1, show ¬ m ≤ 0 by omega, ↓reduceIte, TK, lt_run hn, le43, Int.le_refl, Int.lt_irrefl, Option.some.injEq, exists_eq_left', true_and, and_true, if_true, if_false, decide_eq_false_iff_not, decide_eq_true_eq, Nat.reduceAdd, Nat.reduceLeDiff, Nat.reduceLT, Int.reduceAdd, Int.reduceSub, Int.reduceMul, Int.reduceNeg, not_true_eq_false, not_false_eq_true]
      exact Iff.rfl
  · rw [decide_eq_false (fun z => g z.1)]
    simp +decide (maxSteps := 4000000) (disch := omega) only [k113_0, k113_1, k113_2, k113_r, k113_s, F_al0, T_getI, J_ifle, T_getR, T_I, T_sub, X_iald, F_il1, J_icne, F_il2, T_goto, T_ft, T_ret, x1, d, show m ≤ 0 by omega, ↓reduceIte, TK, lt_run hn, le43, Int.le_refl, Int.lt_irrefl, Option.some.injEq, exists_eq_left', true_and, and_true, if_true, if_false, decide_eq_false_iff_not, decide_eq_true_eq, Nat.reduceAdd, Nat.reduceLeDiff, Nat.reduceLT, Int.reduceAdd, Int.reduceSub, Int.reduceMul, Int.reduceNeg, not_true_eq_false, not_false_eq_true]
    exact Iff.rfl
theorem w114 (F : FH hr) (hn : 775 ≤ n) {t : Nat} (A : SB t) (hm : 0 ≤ m ∧ m < 10) {x y : Int} (R : Rp h t m X Y)
    (k : ∀ h', Ef (Sa t) h h' → Rp h' t (m + 1) (upd1 X m x) (upd1 Y m y) → h' t 0 = h t 0 → Q (none, h', hr, n)) : Sp E 114 [.ref t, .int (J x), .int (J y)] h hr n Q := by
  have x1 := A.x E F
  have x2 := A.r
  have d2 := R.1
  have d3 : sA h (t + 1) m (J x) t 1 = J m := by rw [sA_o (by omega)]; exact d2
  have d4 : sA (sA h (t + 1) m (J x)) (t + 2) m (J y) t 1 = J m := by rw [sA_o (by omega)]; exact d3
  simp +decide (maxSteps := 4000000) (disch := omega) only [k114_0, k114_1, k114_r, k114_s, F_al0, T_getI, T_I, T_icge, T_getR, F_il1, T_iast, F_il2, T_dupI, T_dupR, T_add, T_putI, T_putZ, T_ft, T_ret, x1, d2, d3, d4, show ¬ 10 ≤ m by omega, ↓reduceIte, TK, lt_run hn, le43, Int.le_refl, Int.lt_irrefl, Option.some.injEq, exists_eq_left', true_and, and_true, if_true, if_false, decide_eq_false_iff_not, decide_eq_true_eq, Nat.reduceAdd, Nat.reduceLeDiff, Nat.reduceLT, Int.reduceAdd, Int.reduceSub, Int.reduceMul, Int.reduceNeg, not_true_eq_false, not_false_eq_true]
  refine k _ (Ef.hI (Ef.sA (Ef.sA Ef.refl ⟨by omega, by omega⟩) ⟨by omega, by omega⟩) ⟨by omega, by omega⟩) ⟨hI_s, fun j j0 j1 => ?_⟩ ?_
  · unfold upd1
    rw [gA_o (by omega), gA_o (by omega), gs_o (by omega)]
    by_cases e : j = m
    · subst e
      rw [gs_s, gs_s, if_pos rfl, if_pos rfl]
      exact ⟨rfl, rfl⟩
    · rw [gs_k hm.1 j0 e, gs_k hm.1 j0 e, gs_o (by omega), if_neg e, if_neg e]
      exact R.2 j j0 (by omega)
  · rw [hI_k (by decide), sA_o (by omega), sA_o (by omega)]
theorem w129 (F : FH hr) (hn : 775 ≤ n) {t p q : Nat} (A : SB t) (B : SB p) (B' : SB q) (ap : t + 3 ≤ p ∨ p + 3 ≤ t) (aq : t + 3 ≤ q ∨ q + 3 ≤ t) (C : SC h p s) (C' : SC h q o) (R : SR s) (R' : SR o) (ha : 0 ≤ a ∧ a ≤ b) (hb : 1 ≤ b ∧ b ≤ 24)
    (k : ∀ h', Ef (Sa t) h h' → SC h' t (btw s o a b) → Q (none, h', hr, n)) : Sp E 129 [.ref t, .ref p, .ref q, .int (J a), .int (J b)] h hr n Q := by
  have x1 := A.x E F
  have x2 := A.r
  have y1 := B.x E F
  have y2 := B.r
  have z1 := B'.x E F
  have z2 := B'.r
  have r2 := R.2.1
  have r3 := R'.2.1
  have hl := btl_r R R'
  have H : bH s o (btl s o) a b := ⟨R, R', hl, ha, hb⟩
  have el : btl s o = (if s.2.1 < o.2.1 then o.2.1 else s.2.1) - 1 := rfl
  have fr : ∀ {h'}, Ef (Sa t) h h' → SC h' p s ∧ SC h' q o := fun e => ⟨C.ef e (fun x k q1 q2 q => by unfold Sa at q; omega), C'.ef e (fun x k q1 q2 q => by unfold Sa at q; omega)⟩
  have start : ∀ (c0 : Int), c0 = (if 2 * a < b then s.1 else o.1) → ∀ h1 : AHi, h1 = hI (hI h t 0 (J c0)) t 1 (J 0) → Tm E 129 (a_bl 129 3) [.ref t, .ref p, .ref q, .int (J a), .int (J b), .int (J (btl s o)), .int (J 0), a_mk, a_mk, a_mk, a_mk, a_mk, a_mk, a_mk, a_mk, a_mk, a_mk] [] h1 hr n Q := fun c0 hc h1 hh => by
    refine T_for (σ := Value × Value × Value × Value × Value × Value × Value × Value × Value × Value) (fun j v => [.ref t, .ref p, .ref q, .int (J a), .int (J b), .int (J (btl s o)), .int (J j), v.1, v.2.1, v.2.2.1, v.2.2.2.1, v.2.2.2.2.1, v.2.2.2.2.2.1, v.2.2.2.2.2.2.1, v.2.2.2.2.2.2.2.1, v.2.2.2.2.2.2.2.2.1, v.2.2.2.2.2.2.2.2.2]) (fun j _ h' => Ef (Sa t) h h' ∧ h' t 0 = J c0 ∧ Rp h' t (tpt s o (btl s o) a b j.toNat).1 (tpt s o (btl s o) a b j.toNat).2.1 (tpt s o (btl s o) a b j.toNat).2.2) 0 (btl s o + 1) ?_ ?_ 0 (a_mk, a_mk, a_mk, a_mk, a_mk, a_mk, a_mk, a_mk, a_mk, a_mk) h1 (by omega) (by omega) ?_
    · rintro j ⟨v7, v8, v9, v10, v11, v12, v13, v14, v15, v16⟩ h' j0 j1 ⟨e1, e2, e3⟩ ih
      dsimp only
      obtain ⟨S1, S2⟩ := fr e1
      have b1 := bwx_r (j := j) (l := btl s o) (a := a) (b := b) (M := 47) (fun i => (R.2.2 i).1) (fun i => (R'.2.2 i).1) hl r2 r3 (by omega) ha hb.1
      have b2 := bwx_r (j := j) (l := btl s o) (a := a) (b := b) (M := 31) (fun i => (R.2.2 i).2) (fun i => (R'.2.2 i).2) hl r2 r3 (by omega) ha hb.1
      have lb := mulb (a := btl s o) (b := b) (A := 9) (B := 24) (by omega) (by omega)
      have lp := Int.mul_pos (show 0 < btl s o by omega) (show 0 < b by omega)
      have k1 := tsp_r (M := 47) (fun i => (R.2.2 i).1) hl r2 (show 0 ≤ j ∧ j ≤ btl s o by omega)
      have k2 := tsp_r (M := 31) (fun i => (R.2.2 i).2) hl r2 (show 0 ≤ j ∧ j ≤ btl s o by omega)
      have k3 := tsp_r (M := 47) (fun i => (R'.2.2 i).1) hl r3 (show 0 ≤ j ∧ j ≤ btl s o by omega)
      have k4 := tsp_r (M := 31) (fun i => (R'.2.2 i).2) hl r3 (show 0 ≤ j ∧ j ≤ btl s o by omega)
      have t1 := fun {Q} => s130 (E := E) (hr := hr) (Q := Q) hn (r := p + 1) y1.2.1.2.1 y1.2.2.1 (by omega) (fun i => (R.2.2 i).1) hl r2 (show 0 ≤ j ∧ j ≤ btl s o by omega) (fun i i0 i1 => (S1.2 i i0 i1).1)
      have t2 := fun {Q} => s130 (E := E) (hr := hr) (Q := Q) hn (r := p + 2) y1.2.1.2.2 y1.2.2.2 (by omega) (fun i => ⟨(R.2.2 i).2.1, Int.le_trans (R.2.2 i).2.2 (by decide)⟩) hl r2 (show 0 ≤ j ∧ j ≤ btl s o by omega) (fun i i0 i1 => (S1.2 i i0 i1).2)
      have t3 := fun {Q} => s130 (E := E) (hr := hr) (Q := Q) hn (r := q + 1) z1.2.1.2.1 z1.2.2.1 (by omega) (fun i => (R'.2.2 i).1) hl r3 (show 0 ≤ j ∧ j ≤ btl s o by omega) (fun i i0 i1 => (S2.2 i i0 i1).1)
      have t4 := fun {Q} => s130 (E := E) (hr := hr) (Q := Q) hn (r := q + 2) z1.2.1.2.2 z1.2.2.2 (by omega) (fun i => ⟨(R'.2.2 i).2.1, Int.le_trans (R'.2.2 i).2.2 (by decide)⟩) hl r3 (show 0 ≤ j ∧ j ≤ btl s o by omega) (fun i i0 i1 => (S2.2 i i0 i1).2)
      obtain ⟨m1, m2, m3⟩ := tpt_r H j.toNat (by omega)
      have st := tpt_s (s := s) (o := o) (l := btl s o) (a := a) (b := b) j0
      have f1 : bwx s.2.2.1 s.2.1 o.2.2.1 o.2.1 j (btl s o) a b = rd (tsp s.2.2.1 s.2.1 j (btl s o) * (b - a) + tsp o.2.2.1 o.2.1 j (btl s o) * a) (btl s o * b) := rfl
      have f2 : bwx s.2.2.2 s.2.1 o.2.2.2 o.2.1 j (btl s o) a b = rd (tsp s.2.2.2 s.2.1 j (btl s o) * (b - a) + tsp o.2.2.2 o.2.1 j (btl s o) * a) (btl s o * b) := rfl
      rw [f1] at st b1
      rw [f2] at st b2
      generalize tsp s.2.2.1 s.2.1 j (btl s o) = A1 at *
      generalize tsp s.2.2.2 s.2.1 j (btl s o) = A2 at *
      generalize tsp o.2.2.1 o.2.1 j (btl s o) = A3 at *
      generalize tsp o.2.2.2 o.2.1 j (btl s o) = A4 at *
      have t5 := fun {Q} => s113 (E := E) (Q := Q) F hn A (by omega) m2 m3 b1.1 b2.1 e3
      generalize hu1 : A1 * (b - a) + A3 * a = U1 at *
      generalize hu2 : A2 * (b - a) + A4 * a = U2 at *
      generalize hlb : btl s o * b = LB at *
      have wk := fun {Q} => w114 (E := E) (n := n) (Q := Q) F hn A (x := rd U1 LB) (y := rd U2 LB) (show 0 ≤ (tpt s o (btl s o) a b j.toNat).1 ∧ (tpt s o (btl s o) a b j.toNat).1 < 10 by omega) e3
      by_cases g : 0 < (tpt s o (btl s o) a b j.toNat).1 ∧ (tpt s o (btl s o) a b j.toNat).2.1 ((tpt s o (btl s o) a b j.toNat).1 - 1) = rd U1 LB ∧ (tpt s o (btl s o) a b j.toNat).2.2 ((tpt s o (btl s o) a b j.toNat).1 - 1) = rd U2 LB
      · rw [if_pos g] at st
        rw [k129_3]
        simp +decide (maxSteps := 4000000) (disch := omega) only [k129_0, k129_1, k129_2, k129_4, k129_5, k129_r, k129_s, F_al0, T_I, F_il3, T_mul, F_il4, T_icge, F_al1, T_getI, T_goto, F_al2, T_ft, T_putI, T_putZ, T_sub, F_is5i, F_is5r, F_is5m, F_is6i, F_is6r, F_is6m, F_il6, F_il5, T_icgt, T_getR, T_i2l, T_lst, F_ll7, T_mulL, F_ll11, T_addL, F_is15i, F_is15r, F_is15m, F_ll9, F_ll13, F_is16i, F_is16r, F_is16m, F_il15, F_il16, J_ifne, F_inc6i, F_inc6r, F_inc6m, T_ret, c113, c114, c130, c146, c347, ↓s146, ↓s347, x1, y1, z1, S1.1, S2.1, t1, t2, t3, t4, t5, decide_eq_true g, hu1, hu2, hlb, J_l, L_mul, L_add, L_sub, Bz_t, show ¬ btl s o < j by omega, ↓reduceIte, TK, lt_run hn, le43, Int.le_refl, Int.lt_irrefl, Option.some.injEq, exists_eq_left', true_and, and_true, if_true, if_false, decide_eq_false_iff_not, decide_eq_true_eq, Nat.reduceAdd, Nat.reduceLeDiff, Nat.reduceLT, Int.reduceAdd, Int.reduceSub, Int.reduceMul, Int.reduceNeg, not_true_eq_false, not_false_eq_true]
        refine ih (_, _, _, _, _, _, _, _, _, _) _ ⟨e1, e2, ?_⟩
        rw [st]
        exact e3
      · rw [if_neg g] at st
        rw [k129_3]
        simp +decide (maxSteps := 4000000) (disch := omega) only [k129_0, k129_1, k129_2, k129_4, k129_5, k129_r, k129_s, F_al0, T_I, F_il3, T_mul, F_il4, T_icge, F_al1, T_getI, T_goto, F_al2, T_ft, T_putI, T_putZ, T_sub, F_is5i, F_is5r, F_is5m, F_is6i, F_is6r, F_is6m, F_il6, F_il5, T_icgt, T_getR, T_i2l, T_lst, F_ll7, T_mulL, F_ll11, T_addL, F_is15i, F_is15r, F_is15m, F_ll9, F_ll13, F_is16i, F_is16r, F_is16m, F_il15, F_il16, J_ifne, F_inc6i, F_inc6r, F_inc6m, T_ret, c113, c114, c130, c146, c347, ↓s146, ↓s347, x1, y1, z1, S1.1, S2.1, t1, t2, t3, t4, t5, decide_eq_false g, hu1, hu2, hlb, J_l, L_mul, L_add, L_sub, Bz_f, show ¬ btl s o < j by omega, ↓reduceIte, TK, lt_run hn, le43, Int.le_refl, Int.lt_irrefl, Option.some.injEq, exists_eq_left', true_and, and_true, if_true, if_false, decide_eq_false_iff_not, decide_eq_true_eq, Nat.reduceAdd, Nat.reduceLeDiff, Nat.reduceLT, Int.reduceAdd, Int.reduceSub, Int.reduceMul, Int.reduceNeg, not_true_eq_false, not_false_eq_true]
        refine wk (fun h2 q1 q2 q3 => ?_)
        simp +decide (maxSteps := 4000000) (disch := omega) only [k129_0, k129_1, k129_2, k129_4, k129_5, k129_r, k129_s, F_al0, T_I, F_il3, T_mul, F_il4, T_icge, F_al1, T_getI, T_goto, F_al2, T_ft, T_putI, T_putZ, T_sub, F_is5i, F_is5r, F_is5m, F_is6i, F_is6r, F_is6m, F_il6, F_il5, T_icgt, T_getR, T_i2l, T_lst, F_ll7, T_mulL, F_ll11, T_addL, F_is15i, F_is15r, F_is15m, F_ll9, F_ll13, F_is16i, F_is16r, F_is16m, F_il15, F_il16, J_ifne, F_inc6i, F_inc6r, F_inc6m, T_ret, c113, c114, c130, c146, c347, ↓s113, ↓s130, ↓s146, ↓s347, ↓reduceIte, TK, lt_run hn, le43, Int.le_refl, Int.lt_irrefl, Option.some.injEq, exists_eq_left', true_and, and_true, if_true, if_false, decide_eq_false_iff_not, decide_eq_true_eq, Nat.reduceAdd, Nat.reduceLeDiff, Nat.reduceLT, Int.reduceAdd, Int.reduceSub, Int.reduceMul, Int.reduceNeg, not_true_eq_false, not_false_eq_true]
        refine ih (_, _, _, _, _, _, _, _, _, _) _ ⟨e1.trans q1, q3.trans e2, ?_⟩
        rw [st]
        exact q2
    · rintro ⟨v7, v8, v9, v10, v11, v12, v13, v14, v15, v16⟩ h' ⟨e1, e2, e3⟩
      dsimp only
      rw [k129_3]
      simp +decide (maxSteps := 4000000) (disch := omega) only [k129_0, k129_1, k129_2, k129_4, k129_5, k129_r, k129_s, F_al0, T_I, F_il3, T_mul, F_il4, T_icge, F_al1, T_getI, T_goto, F_al2, T_ft, T_putI, T_putZ, T_sub, F_is5i, F_is5r, F_is5m, F_is6i, F_is6r, F_is6m, F_il6, F_il5, T_icgt, T_getR, T_i2l, T_lst, F_ll7, T_mulL, F_ll11, T_addL, F_is15i, F_is15r, F_is15m, F_ll9, F_ll13, F_is16i, F_is16r, F_is16m, F_il15, F_il16, J_ifne, F_inc6i, F_inc6r, F_inc6m, T_ret, c113, c114, c130, c146, c347, ↓s113, ↓s130, ↓s146, ↓s347, show btl s o < btl s o + 1 by omega, ↓reduceIte, TK, lt_run hn, le43, Int.le_refl, Int.lt_irrefl, Option.some.injEq, exists_eq_left', true_and, and_true, if_true, if_false, decide_eq_false_iff_not, decide_eq_true_eq, Nat.reduceAdd, Nat.reduceLeDiff, Nat.reduceLT, Int.reduceAdd, Int.reduceSub, Int.reduceMul, Int.reduceNeg, not_true_eq_false, not_false_eq_true]
      refine k h' e1 ⟨⟨?_, e3.1⟩, e3.2⟩
      rw [e2, hc]
      rfl
    · subst hh
      refine ⟨Ef.hI (Ef.hI Ef.refl ⟨by omega, by omega⟩) ⟨by omega, by omega⟩, ?_, hI_s, fun j j0 j1 => by have : j < 0 := j1; omega⟩
      rw [hI_k (by decide), hI_s]
  have d0 := C.1
  have d0' := C'.1
  have d1 : ∀ v, hI (hI h t 0 v) t 1 (J 0) p 1 = J s.2.1 := fun v => by rw [hI_o (by omega), hI_o (by omega)]; exact C.1.2
  have d2 : ∀ v, hI (hI h t 0 v) t 1 (J 0) q 1 = J o.2.1 := fun v => by rw [hI_o (by omega), hI_o (by omega)]; exact C'.1.2
  by_cases g : 2 * a < b
  · simp +decide (maxSteps := 4000000) (disch := omega) only [k129_0, k129_1, k129_2, k129_4, k129_5, k129_r, k129_s, F_al0, T_I, F_il3, T_mul, F_il4, T_icge, F_al1, T_getI, T_goto, F_al2, T_ft, T_putI, T_putZ, T_sub, F_is5i, F_is5r, F_is5m, F_is6i, F_is6r, F_is6m, F_il6, F_il5, T_icgt, T_getR, T_i2l, T_lst, F_ll7, T_mulL, F_ll11, T_addL, F_is15i, F_is15r, F_is15m, F_ll9, F_ll13, F_is16i, F_is16r, F_is16m, F_il15, F_il16, J_ifne, F_inc6i, F_inc6r, F_inc6m, T_ret, c113, c114, c130, c146, c347, ↓s113, ↓s130, ↓s146, ↓s347, x1, y1, z1, d0, d0', d1, d2, g, show ¬ b ≤ 2 * a by omega, ↓reduceIte, TK, lt_run hn, le43, Int.le_refl, Int.lt_irrefl, Option.some.injEq, exists_eq_left', true_and, and_true, if_true, if_false, decide_eq_false_iff_not, decide_eq_true_eq, Nat.reduceAdd, Nat.reduceLeDiff, Nat.reduceLT, Int.reduceAdd, Int.reduceSub, Int.reduceMul, Int.reduceNeg, not_true_eq_false, not_false_eq_true]
    exact start s.1 (by rw [if_pos g]) _ rfl
  · simp +decide (maxSteps := 4000000) (disch := omega) only [k129_0, k129_1, k129_2, k129_4, k129_5, k129_r, k129_s, F_al0, T_I, F_il3, T_mul, F_il4, T_icge, F_al1, T_getI, T_goto, F_al2, T_ft, T_putI, T_putZ, T_sub, F_is5i, F_is5r, F_is5m, F_is6i, F_is6r, F_is6m, F_il6, F_il5, T_icgt, T_getR, T_i2l, T_lst, F_ll7, T_mulL, F_ll11, T_addL, F_is15i, F_is15r, F_is15m, F_ll9, F_ll13, F_is16i, F_is16r, F_is16m, F_il15, F_il16, J_ifne, F_inc6i, F_inc6r, F_inc6m, T_ret, c113, c114, c130, c146, c347, ↓s113, ↓s130, ↓s146, ↓s347, x1, y1, z1, d0, d0', d1, d2, g, show b ≤ 2 * a by omega, ↓reduceIte, TK, lt_run hn, le43, Int.le_refl, Int.lt_irrefl, Option.some.injEq, exists_eq_left', true_and, and_true, if_true, if_false, decide_eq_false_iff_not, decide_eq_true_eq, Nat.reduceAdd, Nat.reduceLeDiff, Nat.reduceLT, Int.reduceAdd, Int.reduceSub, Int.reduceMul, Int.reduceNeg, not_true_eq_false, not_false_eq_true]
    exact start o.1 (by rw [if_neg g]) _ rfl
end TA
