/-! fit -/
theorem mulb {a b A B : Int} (ha : -A ≤ a ∧ a ≤ A) (hb : -B ≤ b ∧ b ≤ B) : -(A * B) ≤ a * b ∧ a * b ≤ A * B := by
  have h := Int.natAbs_mul a b
  have h1 : a.natAbs ≤ A.toNat := by omega
  have h2 : b.natAbs ≤ B.toNat := by omega
  have h3 : a.natAbs * b.natAbs ≤ A.toNat * B.toNat := Nat.mul_le_mul h1 h2
  have h4 : ((A.toNat * B.toNat : Nat) : Int) = A * B := by
    rw [Int.natCast_mul, Int.toNat_of_nonneg (by omega), Int.toNat_of_nonneg (by omega)]
  omega
/-- how far point k lies from the line of i and j -/
def crs (s : Stk) (i k j : Int) : Int := (s.2.2.1 j - s.2.2.1 i) * (s.2.2.2 k - s.2.2.2 i) - (s.2.2.2 j - s.2.2.2 i) * (s.2.2.1 k - s.2.2.1 i)
def mst (s : Stk) (e i j : Int) : Int := e * e * ((s.2.2.1 j - s.2.2.1 i) * (s.2.2.1 j - s.2.2.1 i) + (s.2.2.2 j - s.2.2.2 i) * (s.2.2.2 j - s.2.2.2 i))
def clB (s : Stk) (e i j : Int) : Nat → Bool
  | 0 => true
  | m + 1 => clB s e i j m && decide (crs s i (i + 1 + m) j * crs s i (i + 1 + m) j ≤ mst s e i j)
def clo (s : Stk) (e i j : Int) : Bool := clB s e i j (j - i - 1).toNat
def gd (s : Stk) (e i j : Int) : Bool := !(decide (s.2.2.1 i = s.2.2.1 j ∧ s.2.2.2 i = s.2.2.2 j)) && clo s e i j
def nxd (s : Stk) (e i : Int) : Nat → Int
  | 0 => i + 1
  | k + 1 => bif gd s e i (i + 1 + (k + 1 : Nat)) then i + 1 + (k + 1 : Nat) else nxd s e i k
def nxt (s : Stk) (e i : Int) : Int := nxd s e i (s.2.1 - 2 - i).toNat
def stN (s : Stk) (e : Int) : Nat → Int
  | 0 => 0
  | k + 1 => nxt s e (stN s e k)
section FT
variable {E : AEn} {h h' : AHi} {hr : AHr} {n : Nat} {Q : ARs → Prop} {s : Stk} {e i j : Int}
theorem crs_r (R : SR s) (i k j : Int) : -3000 ≤ crs s i k j ∧ crs s i k j ≤ 3000 := by
  have r1 := R.2.2 i
  have r2 := R.2.2 k
  have r3 := R.2.2 j
  have h1 := mulb (a := s.2.2.1 j - s.2.2.1 i) (b := s.2.2.2 k - s.2.2.2 i) (A := 47) (B := 31) (by omega) (by omega)
  have h2 := mulb (a := s.2.2.2 j - s.2.2.2 i) (b := s.2.2.1 k - s.2.2.1 i) (A := 31) (B := 47) (by omega) (by omega)
  unfold crs
  omega
theorem mst_r (R : SR s) (he : 0 ≤ e ∧ e ≤ 20) (i j : Int) : (-4000 ≤ (s.2.2.1 j - s.2.2.1 i) * (s.2.2.1 j - s.2.2.1 i) + (s.2.2.2 j - s.2.2.2 i) * (s.2.2.2 j - s.2.2.2 i) ∧ (s.2.2.1 j - s.2.2.1 i) * (s.2.2.1 j - s.2.2.1 i) + (s.2.2.2 j - s.2.2.2 i) * (s.2.2.2 j - s.2.2.2 i) ≤ 4000) ∧ (-400 ≤ e * e ∧ e * e ≤ 400) ∧ -1600000 ≤ mst s e i j ∧ mst s e i j ≤ 1600000 := by
  have r1 := R.2.2 i
  have r3 := R.2.2 j
  have h1 := mulb (a := s.2.2.1 j - s.2.2.1 i) (b := s.2.2.1 j - s.2.2.1 i) (A := 47) (B := 47) (by omega) (by omega)
  have h2 := mulb (a := s.2.2.2 j - s.2.2.2 i) (b := s.2.2.2 j - s.2.2.2 i) (A := 31) (B := 31) (by omega) (by omega)
  have h3 := mulb (a := e) (b := e) (A := 20) (B := 20) (by omega) (by omega)
  have h4 := mulb (a := e * e) (b := (s.2.2.1 j - s.2.2.1 i) * (s.2.2.1 j - s.2.2.1 i) + (s.2.2.2 j - s.2.2.2 i) * (s.2.2.2 j - s.2.2.2 i)) (A := 400) (B := 4000) (by omega) (by omega)
  unfold mst
  omega
theorem clB_f {m : Nat} (h : clB s e i j m = false) : ∀ k, clB s e i j (m + k) = false := by
  intro k
  induction k with
  | zero => exact h
  | succ k ih =>
    show (clB s e i j (m + k) && _) = false
    rw [ih]
    rfl
theorem clB_s (h : i < j) {q : Int} (h0 : i + 1 ≤ q) : clB s e i j (q + 1 - i - 1).toNat = (clB s e i j (q - i - 1).toNat && decide (crs s i q j * crs s i q j ≤ mst s e i j)) := by
  rw [show (q + 1 - i - 1).toNat = (q - i - 1).toNat + 1 by omega]
  show (clB s e i j (q - i - 1).toNat && decide (crs s i (i + 1 + ((q - i - 1).toNat : Int)) j * crs s i (i + 1 + ((q - i - 1).toNat : Int)) j ≤ mst s e i j)) = _
  rw [show i + 1 + ((q - i - 1).toNat : Int) = q by omega]
theorem s119 (F : FH hr) (hn : 775 ≤ n) {a : Nat} (A : SB a) (R : SR s) (hi : 0 ≤ i ∧ i < 10) (hj : 0 ≤ j ∧ j < 10) (ci : gA h (a + 1) i = J (s.2.2.1 i) ∧ gA h (a + 2) i = J (s.2.2.2 i)) (cj : gA h (a + 1) j = J (s.2.2.1 j) ∧ gA h (a + 2) j = J (s.2.2.2 j)) : Sp E 119 [.ref a, .int (J i), .int (J j)] h hr n Q ↔ Q (some (.int (Bz (decide (s.2.2.1 i = s.2.2.1 j ∧ s.2.2.2 i = s.2.2.2 j)))), h, hr, n) := by
  have x1 := A.x E F
  have x2 := A.r
  have r1 := R.2.2 i
  have r2 := R.2.2 j
  by_cases g1 : s.2.2.1 i = s.2.2.1 j
  · by_cases g2 : s.2.2.2 i = s.2.2.2 j
    · simp +decide (maxSteps := 4000000) (disch := omega) only [k119_0, k119_1, k119_2, k119_r, k119_s, F_al0, T_getR, F_il1, X_iald, F_il2, J_icne, T_I, T_goto, T_ft, T_ret, x1, ci, cj, g1, g2, TK, lt_run hn, le43, Int.le_refl, Int.lt_irrefl, Option.some.injEq, exists_eq_left', true_and, and_true, if_true, if_false, decide_eq_false_iff_not, decide_eq_true_eq, Nat.reduceAdd, Nat.reduceLeDiff, Nat.reduceLT, Int.reduceAdd, Int.reduceSub, Int.reduceMul, Int.reduceNeg, not_true_eq_false, not_false_eq_true]
      exact Iff.rfl
    · simp +decide (maxSteps := 4000000) (disch := omega) only [k119_0, k119_1, k119_2, k119_r, k119_s, F_al0, T_getR, F_il1, X_iald, F_il2, J_icne, T_I, T_goto, T_ft, T_ret, x1, ci, cj, g1, g2, TK, lt_run hn, le43, Int.le_refl, Int.lt_irrefl, Option.some.injEq, exists_eq_left', true_and, and_true, if_true, if_false, decide_eq_false_iff_not, decide_eq_true_eq, Nat.reduceAdd, Nat.reduceLeDiff, Nat.reduceLT, Int.reduceAdd, Int.reduceSub, Int.reduceMul, Int.reduceNeg, not_true_eq_false, not_false_eq_true]
      exact Iff.rfl
  · simp +decide (maxSteps := 4000000) (disch := omega) only [k119_0, k119_1, k119_2, k119_r, k119_s, F_al0, T_getR, F_il1, X_iald, F_il2, J_icne, T_I, T_goto, T_ft, T_ret, x1, ci, cj, g1, TK, lt_run hn, le43, Int.le_refl, Int.lt_irrefl, Option.some.injEq, exists_eq_left', true_and, and_true, if_true, if_false, decide_eq_false_iff_not, decide_eq_true_eq, Nat.reduceAdd, Nat.reduceLeDiff, Nat.reduceLT, Int.reduceAdd, Int.reduceSub, Int.reduceMul, Int.reduceNeg, not_true_eq_false, not_false_eq_true]
    exact Iff.rfl
theorem w120 (F : FH hr) (hn : 775 ≤ n) {a : Nat} (A : SB a) (R : SR s) (he : 0 ≤ e ∧ e ≤ 20) (hi : 0 ≤ i) (hj : i < j ∧ j < 10) (c : ∀ q, i ≤ q → q ≤ j → gA h (a + 1) q = J (s.2.2.1 q) ∧ gA h (a + 2) q = J (s.2.2.2 q)) (k : Q (some (.int (Bz (clo s e i j))), h, hr, n)) : Sp E 120 [.ref a, .int (J i), .int (J j), .int (J e)] h hr n Q := by
  have x1 := A.x E F
  have x2 := A.r
  have ci := c i (by omega) (by omega)
  have cj := c j (by omega) (by omega)
  have mr := mst_r (e := e) R he i j
  simp +decide (maxSteps := 4000000) (disch := omega) only [k120_0, k120_2, k120_3, k120_r, k120_s, F_al0, T_getR, F_il2, X_iald, F_il1, T_sub, F_is4i, F_is4r, F_is4m, F_is5i, F_is5r, F_is5m, F_il3, T_mul, F_il4, F_il5, T_add, F_is6i, F_is6r, F_is6m, T_I, F_is7i, F_is7r, F_is7m, T_ft, F_il7, T_icge, F_is8i, F_is8r, F_is8m, F_il8, F_il6, T_icle, T_ret, F_inc7i, F_inc7r, F_inc7m, T_goto, x1, ci, cj, TK, lt_run hn, le43, Int.le_refl, Int.lt_irrefl, Option.some.injEq, exists_eq_left', true_and, and_true, if_true, if_false, decide_eq_false_iff_not, decide_eq_true_eq, Nat.reduceAdd, Nat.reduceLeDiff, Nat.reduceLT, Int.reduceAdd, Int.reduceSub, Int.reduceMul, Int.reduceNeg, not_true_eq_false, not_false_eq_true]
  have em : mst s e i j = e * e * ((s.2.2.1 j - s.2.2.1 i) * (s.2.2.1 j - s.2.2.1 i) + (s.2.2.2 j - s.2.2.2 i) * (s.2.2.2 j - s.2.2.2 i)) := rfl
  rw [← em]
  refine T_for (σ := Value) (fun q v => [.ref a, .int (J i), .int (J j), .int (J e), .int (J (s.2.2.1 j - s.2.2.1 i)), .int (J (s.2.2.2 j - s.2.2.2 i)), .int (J (mst s e i j)), .int (J q), v]) (fun q v h' => h' = h ∧ clB s e i j (q - i - 1).toNat = true) (i + 1) j ?_ ?_ (i + 1) a_mk h (by omega) (by omega) ⟨rfl, by rw [show (i + 1 - i - 1).toNat = 0 by omega]; rfl⟩
  · rintro q v h' q0 q1 ⟨rfl, hp⟩ ih
    have cq := c q (by omega) (by omega)
    have cr := crs_r R i q j
    have cm := mulb (a := crs s i q j) (b := crs s i q j) (A := 3000) (B := 3000) (by omega) (by omega)
    have ec : crs s i q j = (s.2.2.1 j - s.2.2.1 i) * (s.2.2.2 q - s.2.2.2 i) - (s.2.2.2 j - s.2.2.2 i) * (s.2.2.1 q - s.2.2.1 i) := rfl
    have cs := clB_s (s := s) (e := e) hj.1 q0
    by_cases g : crs s i q j * crs s i q j ≤ mst s e i j
    · rw [k120_1]
      simp +decide (maxSteps := 4000000) (disch := omega) only [k120_0, k120_2, k120_3, k120_r, k120_s, F_al0, T_getR, F_il2, X_iald, F_il1, T_sub, F_is4i, F_is4r, F_is4m, F_is5i, F_is5r, F_is5m, F_il3, T_mul, F_il4, F_il5, T_add, F_is6i, F_is6r, F_is6m, T_I, F_is7i, F_is7r, F_is7m, T_ft, F_il7, T_icge, F_is8i, F_is8r, F_is8m, F_il8, F_il6, T_icle, T_ret, F_inc7i, F_inc7r, F_inc7m, T_goto, x1, ci, cj, cq, ← ec, g, show ¬ j ≤ q by omega, TK, lt_run hn, le43, Int.le_refl, Int.lt_irrefl, Option.some.injEq, exists_eq_left', true_and, and_true, if_true, if_false, decide_eq_false_iff_not, decide_eq_true_eq, Nat.reduceAdd, Nat.reduceLeDiff, Nat.reduceLT, Int.reduceAdd, Int.reduceSub, Int.reduceMul, Int.reduceNeg, not_true_eq_false, not_false_eq_true]
      refine ih _ _ ⟨rfl, ?_⟩
      rw [cs, hp, decide_eq_true g]
      rfl
    · rw [k120_1]
      simp +decide (maxSteps := 4000000) (disch := omega) only [k120_0, k120_2, k120_3, k120_r, k120_s, F_al0, T_getR, F_il2, X_iald, F_il1, T_sub, F_is4i, F_is4r, F_is4m, F_is5i, F_is5r, F_is5m, F_il3, T_mul, F_il4, F_il5, T_add, F_is6i, F_is6r, F_is6m, T_I, F_is7i, F_is7r, F_is7m, T_ft, F_il7, T_icge, F_is8i, F_is8r, F_is8m, F_il8, F_il6, T_icle, T_ret, F_inc7i, F_inc7r, F_inc7m, T_goto, x1, ci, cj, cq, ← ec, g, show ¬ j ≤ q by omega, TK, lt_run hn, le43, Int.le_refl, Int.lt_irrefl, Option.some.injEq, exists_eq_left', true_and, and_true, if_true, if_false, decide_eq_false_iff_not, decide_eq_true_eq, Nat.reduceAdd, Nat.reduceLeDiff, Nat.reduceLT, Int.reduceAdd, Int.reduceSub, Int.reduceMul, Int.reduceNeg, not_true_eq_false, not_false_eq_true]
      rw [hp, decide_eq_false g] at cs
      have cf := clB_f (s := s) (e := e) (i := i) (j := j) (m := (q + 1 - i - 1).toNat) cs (j - 1 - q).toNat
      have ef : clo s e i j = false := by
        unfold clo
        rw [show (j - i - 1).toNat = (q + 1 - i - 1).toNat + (j - 1 - q).toNat by omega]
        exact cf
      rw [ef] at k
      exact k
  · rintro v h' ⟨rfl, hp⟩
    rw [k120_1]
    simp +decide (maxSteps := 4000000) (disch := omega) only [k120_0, k120_2, k120_3, k120_r, k120_s, F_al0, T_getR, F_il2, X_iald, F_il1, T_sub, F_is4i, F_is4r, F_is4m, F_is5i, F_is5r, F_is5m, F_il3, T_mul, F_il4, F_il5, T_add, F_is6i, F_is6r, F_is6m, T_I, F_is7i, F_is7r, F_is7m, T_ft, F_il7, T_icge, F_is8i, F_is8r, F_is8m, F_il8, F_il6, T_icle, T_ret, F_inc7i, F_inc7r, F_inc7m, T_goto, TK, lt_run hn, le43, Int.le_refl, Int.lt_irrefl, Option.some.injEq, exists_eq_left', true_and, and_true, if_true, if_false, decide_eq_false_iff_not, decide_eq_true_eq, Nat.reduceAdd, Nat.reduceLeDiff, Nat.reduceLT, Int.reduceAdd, Int.reduceSub, Int.reduceMul, Int.reduceNeg, not_true_eq_false, not_false_eq_true]
    have ef : clo s e i j = true := hp
    rw [ef] at k
    exact k
theorem nxd_s (hi : 0 ≤ i) {q : Int} (h0 : i + 1 < q) : nxd s e i (q - i - 1).toNat = bif gd s e i q then q else nxd s e i (q - 1 - i - 1).toNat := by
  rw [show (q - i - 1).toNat = (q - 1 - i - 1).toNat + 1 by omega]
  show (bif gd s e i (i + 1 + ((q - 1 - i - 1).toNat + 1 : Nat)) then i + 1 + ((q - 1 - i - 1).toNat + 1 : Nat) else nxd s e i (q - 1 - i - 1).toNat) = _
  rw [show (i + 1 + ((q - 1 - i - 1).toNat + 1 : Nat) : Int) = q by omega]
theorem w118 (F : FH hr) (hn : 775 ≤ n) {a : Nat} (A : SB a) (R : SR s) (he : 0 ≤ e ∧ e ≤ 20) (hi : 0 ≤ i ∧ i < s.2.1 - 1) (c1 : h a 1 = J s.2.1) (c : ∀ q, i ≤ q → q < s.2.1 → gA h (a + 1) q = J (s.2.2.1 q) ∧ gA h (a + 2) q = J (s.2.2.2 q)) (k : Q (some (.int (J (nxt s e i))), h, hr, n)) : Sp E 118 [.ref a, .int (J i), .int (J e)] h hr n Q := by
  have x1 := A.x E F
  have x2 := A.r
  have r2 := R.2.1
  simp +decide (maxSteps := 4000000) (disch := omega) only [k118_0, k118_2, k118_3, k118_r, k118_s, F_al0, T_getI, T_I, T_sub, F_is3i, F_is3r, F_is3m, T_ft, F_il3, F_il1, T_add, T_icle, J_ifne, F_il2, J_ifeq, T_ret, F_inc3i, F_inc3r, F_inc3m, T_goto, c119, c120, ↓s119, x1, c1, TK, lt_run hn, le43, Int.le_refl, Int.lt_irrefl, Option.some.injEq, exists_eq_left', true_and, and_true, if_true, if_false, decide_eq_false_iff_not, decide_eq_true_eq, Nat.reduceAdd, Nat.reduceLeDiff, Nat.reduceLT, Int.reduceAdd, Int.reduceSub, Int.reduceMul, Int.reduceNeg, not_true_eq_false, not_false_eq_true]
  refine T_down (σ := Unit) (fun q _ => [.ref a, .int (J i), .int (J e), .int (J q)]) (fun q _ h' => h' = h ∧ nxt s e i = nxd s e i (q - i - 1).toNat) (i + 1) (s.2.1 - 1) ?_ ?_ (s.2.1 - 1) () h (by omega) (by omega) ⟨rfl, by unfold nxt; rw [show (s.2.1 - 2 - i).toNat = (s.2.1 - 1 - i - 1).toNat by omega]⟩
  · rintro q _ h' q0 q1 ⟨rfl, hp⟩ ih
    have ns := nxd_s (s := s) (e := e) hi.1 q0
    have ci := c i (by omega) (by omega)
    have cq := c q (by omega) (by omega)
    by_cases g1 : s.2.2.1 i = s.2.2.1 q ∧ s.2.2.2 i = s.2.2.2 q
    · have gf : gd s e i q = false := by
        unfold gd
        rw [decide_eq_true g1]
        rfl
      rw [k118_1]
      simp +decide (maxSteps := 4000000) (disch := omega) only [k118_0, k118_2, k118_3, k118_r, k118_s, F_al0, T_getI, T_I, T_sub, F_is3i, F_is3r, F_is3m, T_ft, F_il3, F_il1, T_add, T_icle, J_ifne, F_il2, J_ifeq, T_ret, F_inc3i, F_inc3r, F_inc3m, T_goto, c119, c120, x1, ↓s119 F hn A R (by omega) (by omega) ci cq, g1, show ¬ q ≤ i + 1 by omega, TK, lt_run hn, le43, Int.le_refl, Int.lt_irrefl, Option.some.injEq, exists_eq_left', true_and, and_true, if_true, if_false, decide_eq_false_iff_not, decide_eq_true_eq, Nat.reduceAdd, Nat.reduceLeDiff, Nat.reduceLT, Int.reduceAdd, Int.reduceSub, Int.reduceMul, Int.reduceNeg, not_true_eq_false, not_false_eq_true]
      refine ih () _ ⟨rfl, ?_⟩
      rw [hp, ns, gf]
      rfl
    · rw [k118_1]
      simp +decide (maxSteps := 4000000) (disch := omega) only [k118_0, k118_2, k118_3, k118_r, k118_s, F_al0, T_getI, T_I, T_sub, F_is3i, F_is3r, F_is3m, T_ft, F_il3, F_il1, T_add, T_icle, J_ifne, F_il2, J_ifeq, T_ret, F_inc3i, F_inc3r, F_inc3m, T_goto, c119, c120, x1, ↓s119 F hn A R (by omega) (by omega) ci cq, g1, show ¬ q ≤ i + 1 by omega, TK, lt_run hn, le43, Int.le_refl, Int.lt_irrefl, Option.some.injEq, exists_eq_left', true_and, and_true, if_true, if_false, decide_eq_false_iff_not, decide_eq_true_eq, Nat.reduceAdd, Nat.reduceLeDiff, Nat.reduceLT, Int.reduceAdd, Int.reduceSub, Int.reduceMul, Int.reduceNeg, not_true_eq_false, not_false_eq_true]
      refine w120 F hn A R he hi.1 (by omega) (fun z z0 z1 => c z z0 (by omega)) ?_
      have gf : gd s e i q = clo s e i q := by
        unfold gd
        rw [decide_eq_false g1]
        rfl
      cases hc : clo s e i q with
      | true =>
        simp +decide (maxSteps := 4000000) (disch := omega) only [k118_0, k118_2, k118_3, k118_r, k118_s, F_al0, T_getI, T_I, T_sub, F_is3i, F_is3r, F_is3m, T_ft, F_il3, F_il1, T_add, T_icle, J_ifne, F_il2, J_ifeq, T_ret, F_inc3i, F_inc3r, F_inc3m, T_goto, c119, c120, ↓s119, Bz_t, TK, lt_run hn, le43, Int.le_refl, Int.lt_irrefl, Option.some.injEq, exists_eq_left', true_and, and_true, if_true, if_false, decide_eq_false_iff_not, decide_eq_true_eq, Nat.reduceAdd, Nat.reduceLeDiff, Nat.reduceLT, Int.reduceAdd, Int.reduceSub, Int.reduceMul, Int.reduceNeg, not_true_eq_false, not_false_eq_true]
        rw [hp, ns, gf, hc] at k
        exact k
      | false =>
        simp +decide (maxSteps := 4000000) (disch := omega) only [k118_0, k118_2, k118_3, k118_r, k118_s, F_al0, T_getI, T_I, T_sub, F_is3i, F_is3r, F_is3m, T_ft, F_il3, F_il1, T_add, T_icle, J_ifne, F_il2, J_ifeq, T_ret, F_inc3i, F_inc3r, F_inc3m, T_goto, c119, c120, ↓s119, Bz_f, TK, lt_run hn, le43, Int.le_refl, Int.lt_irrefl, Option.some.injEq, exists_eq_left', true_and, and_true, if_true, if_false, decide_eq_false_iff_not, decide_eq_true_eq, Nat.reduceAdd, Nat.reduceLeDiff, Nat.reduceLT, Int.reduceAdd, Int.reduceSub, Int.reduceMul, Int.reduceNeg, not_true_eq_false, not_false_eq_true]
        refine ih () _ ⟨rfl, ?_⟩
        rw [hp, ns, gf, hc]
        rfl
  · rintro _ h' ⟨rfl, hp⟩
    rw [k118_1]
    simp +decide (maxSteps := 4000000) (disch := omega) only [k118_0, k118_2, k118_3, k118_r, k118_s, F_al0, T_getI, T_I, T_sub, F_is3i, F_is3r, F_is3m, T_ft, F_il3, F_il1, T_add, T_icle, J_ifne, F_il2, J_ifeq, T_ret, F_inc3i, F_inc3r, F_inc3m, T_goto, c119, c120, ↓s119, TK, lt_run hn, le43, Int.le_refl, Int.lt_irrefl, Option.some.injEq, exists_eq_left', true_and, and_true, if_true, if_false, decide_eq_false_iff_not, decide_eq_true_eq, Nat.reduceAdd, Nat.reduceLeDiff, Nat.reduceLT, Int.reduceAdd, Int.reduceSub, Int.reduceMul, Int.reduceNeg, not_true_eq_false, not_false_eq_true]
    rw [show (i + 1 - i - 1).toNat = 0 by omega] at hp
    rw [hp] at k
    exact k
theorem nxd_r : ∀ k : Nat, i + 1 ≤ nxd s e i k ∧ nxd s e i k ≤ i + 1 + k := by
  intro k
  induction k with
  | zero => exact ⟨Int.le_refl _, by show i + 1 ≤ i + 1 + 0; omega⟩
  | succ k ih =>
    unfold nxd
    cases gd s e i (i + 1 + (k + 1 : Nat)) with
    | true =>
      show i + 1 ≤ i + 1 + ((k + 1 : Nat) : Int) ∧ i + 1 + ((k + 1 : Nat) : Int) ≤ i + 1 + ((k + 1 : Nat) : Int)
      omega
    | false =>
      show i + 1 ≤ nxd s e i k ∧ nxd s e i k ≤ i + 1 + ((k + 1 : Nat) : Int)
      omega
theorem nxt_r (hi : i < s.2.1 - 1) : i + 1 ≤ nxt s e i ∧ nxt s e i ≤ s.2.1 - 1 := by
  have := nxd_r (s := s) (e := e) (i := i) (s.2.1 - 2 - i).toNat
  unfold nxt
  omega
/-- the points that stay -/
def fitS (s : Stk) (e : Int) (m : Int) : Stk := (s.1, m + 1, fun j => s.2.2.1 (stN s e j.toNat), fun j => s.2.2.2 (stN s e j.toNat))
theorem stN_s {m : Int} (h : 0 ≤ m) : stN s e (m + 1).toNat = nxt s e (stN s e m.toNat) := by
  rw [show (m + 1).toNat = m.toNat + 1 by omega]
  rfl
/-- m is the last of them -/
def fitE (s : Stk) (e m : Int) : Prop := 0 ≤ m ∧ m ≤ 9 ∧ stN s e m.toNat = s.2.1 - 1 ∧ ∀ q, 0 ≤ q → q ≤ m → q ≤ stN s e q.toNat ∧ (q < m → stN s e q.toNat < s.2.1 - 1)
theorem w117 (F : FH hr) (hn : 775 ≤ n) {a : Nat} (A : SB a) (R : SR s) (he : 0 ≤ e ∧ e ≤ 20) (C : SC h a s)
    (k : ∀ m h', fitE s e m → SC h' a (fitS s e m) → Ef (Sa a) h h' → Q (none, h', hr, n)) : Sp E 117 [.ref a, .int (J e)] h hr n Q := by
  have x1 := A.x E F
  have x2 := A.r
  have r2 := R.2.1
  simp +decide (maxSteps := 4000000) (disch := omega) only [k117_0, k117_2, k117_r, k117_s, T_I, F_is2i, F_is2r, F_is2m, F_is3i, F_is3r, F_is3m, F_is4i, F_is4r, F_is4m, T_ft, F_il4, T_icge, F_il3, F_al0, T_getI, T_sub, F_il1, T_getR, F_il2, X_iald, T_iast, F_inc2i, F_inc2r, F_inc2m, F_inc4i, F_inc4r, F_inc4m, T_goto, T_putI, T_putZ, T_ret, c118, TK, lt_run hn, le43, Int.le_refl, Int.lt_irrefl, Option.some.injEq, exists_eq_left', true_and, and_true, if_true, if_false, decide_eq_false_iff_not, decide_eq_true_eq, Nat.reduceAdd, Nat.reduceLeDiff, Nat.reduceLT, Int.reduceAdd, Int.reduceSub, Int.reduceMul, Int.reduceNeg, not_true_eq_false, not_false_eq_true]
  have key : ∀ (q : Nat) (m : Int) (h' : AHi), (q : Int) = 9 - m → 0 ≤ m → m ≤ 9 → (∀ j, 0 ≤ j → j ≤ m → j ≤ stN s e j.toNat ∧ stN s e j.toNat ≤ s.2.1 - 1 ∧ (j < m → stN s e j.toNat < s.2.1 - 1)) → Ef (Sa a) h h' → (h' a 0 = J s.1 ∧ h' a 1 = J s.2.1) → (∀ j, 0 ≤ j → j ≤ m → gA h' (a + 1) j = J (s.2.2.1 (stN s e j.toNat)) ∧ gA h' (a + 2) j = J (s.2.2.2 (stN s e j.toNat))) → (∀ j, stN s e m.toNat ≤ j → j < s.2.1 → gA h' (a + 1) j = J (s.2.2.1 j) ∧ gA h' (a + 2) j = J (s.2.2.2 j)) →
      Tm E 117 (a_bl 117 1) [.ref a, .int (J e), .int (J (m + 1)), .int (J (stN s e m.toNat)), .int (J m)] [] h' hr n Q := by
    intro q
    have fin : ∀ (m : Int) (h' : AHi), 0 ≤ m → m ≤ 9 → stN s e m.toNat = s.2.1 - 1 → (∀ j, 0 ≤ j → j ≤ m → j ≤ stN s e j.toNat ∧ stN s e j.toNat ≤ s.2.1 - 1 ∧ (j < m → stN s e j.toNat < s.2.1 - 1)) → Ef (Sa a) h h' → (h' a 0 = J s.1 ∧ h' a 1 = J s.2.1) → (∀ j, 0 ≤ j → j ≤ m → gA h' (a + 1) j = J (s.2.2.1 (stN s e j.toNat)) ∧ gA h' (a + 2) j = J (s.2.2.2 (stN s e j.toNat))) →
        Tm E 117 (a_bl 117 1) [.ref a, .int (J e), .int (J (m + 1)), .int (J (stN s e m.toNat)), .int (J m)] [] h' hr n Q := fun m h' m0 m1 es hm e1 c0 c1 => by
      have c2 := c0.2
      rw [k117_1]
      simp +decide (maxSteps := 4000000) (disch := omega) only [k117_0, k117_2, k117_r, k117_s, T_I, F_is2i, F_is2r, F_is2m, F_is3i, F_is3r, F_is3m, F_is4i, F_is4r, F_is4m, T_ft, F_il4, T_icge, F_il3, F_al0, T_getI, T_sub, F_il1, T_getR, F_il2, X_iald, T_iast, F_inc2i, F_inc2r, F_inc2m, F_inc4i, F_inc4r, F_inc4m, T_goto, T_putI, T_putZ, T_ret, c118, x1, c2, es, show ¬ 10 ≤ m by omega, TK, lt_run hn, le43, Int.le_refl, Int.lt_irrefl, Option.some.injEq, exists_eq_left', true_and, and_true, if_true, if_false, decide_eq_false_iff_not, decide_eq_true_eq, Nat.reduceAdd, Nat.reduceLeDiff, Nat.reduceLT, Int.reduceAdd, Int.reduceSub, Int.reduceMul, Int.reduceNeg, not_true_eq_false, not_false_eq_true]
      refine k m _ ⟨m0, m1, es, fun q q0 q1 => ⟨(hm q q0 q1).1, (hm q q0 q1).2.2⟩⟩ ⟨⟨?_, hI_s⟩, fun j j0 j1 => ?_⟩ (e1.hI ⟨by omega, by omega⟩)
      · rw [hI_k (by decide)]
        exact c0.1
      · have j1' : j < m + 1 := j1
        rw [gA_o (by omega), gA_o (by omega)]
        exact c1 j j0 (by omega)
    induction q with
    | zero =>
      intro m h' hq m0 m1 hm e1 c0 c1 c2
      have h9 := hm m m0 (by omega)
      exact fin m h' m0 m1 (by omega) hm e1 c0 c1
    | succ q ih =>
      intro m h' hq m0 m1 hm e1 c0 c1 c2
      have hmm := hm m m0 (by omega)
      by_cases g : stN s e m.toNat < s.2.1 - 1
      · have nr := nxt_r (s := s) (e := e) g
        have ss := stN_s (s := s) (e := e) m0
        have d := c2 (nxt s e (stN s e m.toNat)) (by omega) (by omega)
        have c3 := c0.2
        rw [k117_1]
        simp +decide (maxSteps := 4000000) (disch := omega) only [k117_0, k117_2, k117_r, k117_s, T_I, F_is2i, F_is2r, F_is2m, F_is3i, F_is3r, F_is3m, F_is4i, F_is4r, F_is4m, T_ft, F_il4, T_icge, F_il3, F_al0, T_getI, T_sub, F_il1, T_getR, F_il2, X_iald, T_iast, F_inc2i, F_inc2r, F_inc2m, F_inc4i, F_inc4r, F_inc4m, T_goto, T_putI, T_putZ, T_ret, c118, x1, c3, show ¬ 10 ≤ m by omega, show ¬ s.2.1 - 1 ≤ stN s e m.toNat by omega, TK, lt_run hn, le43, Int.le_refl, Int.lt_irrefl, Option.some.injEq, exists_eq_left', true_and, and_true, if_true, if_false, decide_eq_false_iff_not, decide_eq_true_eq, Nat.reduceAdd, Nat.reduceLeDiff, Nat.reduceLT, Int.reduceAdd, Int.reduceSub, Int.reduceMul, Int.reduceNeg, not_true_eq_false, not_false_eq_true]
        refine w118 F hn A R he (by omega) c0.2 c2 ?_
        have d2 : gA (sA h' (a + 1) (m + 1) (J (s.2.2.1 (nxt s e (stN s e m.toNat))))) (a + 2) (nxt s e (stN s e m.toNat)) = J (s.2.2.2 (nxt s e (stN s e m.toNat))) := by rw [gs_o (by omega)]; exact d.2
        simp +decide (maxSteps := 4000000) (disch := omega) only [k117_0, k117_2, k117_r, k117_s, T_I, F_is2i, F_is2r, F_is2m, F_is3i, F_is3r, F_is3m, F_is4i, F_is4r, F_is4m, T_ft, F_il4, T_icge, F_il3, F_al0, T_getI, T_sub, F_il1, T_getR, F_il2, X_iald, T_iast, F_inc2i, F_inc2r, F_inc2m, F_inc4i, F_inc4r, F_inc4m, T_goto, T_putI, T_putZ, T_ret, c118, x1, d, d2, TK, lt_run hn, le43, Int.le_refl, Int.lt_irrefl, Option.some.injEq, exists_eq_left', true_and, and_true, if_true, if_false, decide_eq_false_iff_not, decide_eq_true_eq, Nat.reduceAdd, Nat.reduceLeDiff, Nat.reduceLT, Int.reduceAdd, Int.reduceSub, Int.reduceMul, Int.reduceNeg, not_true_eq_false, not_false_eq_true]
        rw [← ss] at nr d ⊢
        refine ih (m + 1) _ (by omega) (by omega) (by omega) (fun j j0 j1 => ?_) ((e1.sA ⟨by omega, by omega⟩).sA ⟨by omega, by omega⟩) ?_ (fun j j0 j1 => ?_) (fun j j0 j1 => ?_)
        · by_cases ej : j = m + 1
          · rw [ej]
            omega
          · have := hm j j0 (by omega)
            by_cases ej2 : j = m
            · rw [ej2] at this ⊢
              omega
            · omega
        · rw [sA_o (by omega), sA_o (by omega)]
          exact c0
        · rw [gs_o (by omega)]
          by_cases ej : j = m + 1
          · rw [ej, gs_s, gs_s]
            exact ⟨rfl, rfl⟩
          · rw [gs_k (by omega) j0 ej, gs_k (by omega) j0 ej, gs_o (by omega)]
            exact c1 j j0 (by omega)
        · rw [gs_o (by omega)]
          by_cases ej : j = m + 1
          · have e3 : stN s e (m + 1).toNat = m + 1 := by omega
            rw [ej, gs_s, gs_s, e3]
            exact ⟨rfl, rfl⟩
          · rw [gs_k (by omega) (by omega) ej, gs_k (by omega) (by omega) ej, gs_o (by omega)]
            exact c2 j (by omega) j1
      · exact fin m h' m0 m1 (by omega) hm e1 c0 c1
  exact key 9 0 h (by decide) (by decide) (by decide) (fun j j0 j1 => by
    have e0 : j = 0 := by omega
    subst e0
    show (0 : Int) ≤ 0 ∧ (0 : Int) ≤ s.2.1 - 1 ∧ ((0 : Int) < 0 → (0 : Int) < s.2.1 - 1)
    omega) Ef.refl C.1 (fun j j0 j1 => by
    have e0 : j = 0 := by omega
    subst e0
    exact C.2 0 (by omega) (by omega)) (fun j j0 j1 => C.2 j j0 j1)
end FT
