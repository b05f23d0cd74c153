/-! Lines: their PIXELS; whether one is near -/
def lnp (a d n k : Int) : Int := if n = 0 then a else a + rd (k * d) n
/-- how many steps -/
theorem stp_r (dx dy : Int) : (0 ≤ stp dx dy) ∧ (-stp dx dy ≤ dx ∧ dx ≤ stp dx dy) ∧ -stp dx dy ≤ dy ∧ dy ≤ stp dx dy := by
  unfold stp
  split <;> omega
theorem stp_m {dx dy A : Int} (h : -A ≤ dx ∧ dx ≤ A) (h' : -A ≤ dy ∧ dy ≤ A) : stp dx dy ≤ A := by
  unfold stp
  split <;> omega
theorem stp_C (dx dy : Int) : (if (if 0 ≤ dx then dx else -dx) < (if 0 ≤ dy then dy else -dy) then (if 0 ≤ dy then dy else -dy) else (if 0 ≤ dx then dx else -dx)) = stp dx dy := by
  unfold stp
  repeat' split
  all_goals omega
theorem rd_r {n d k : Int} (hn : 0 < n) (hk : 0 ≤ k ∧ k ≤ n) : (0 ≤ d → 0 ≤ rd (k * d) n ∧ rd (k * d) n ≤ d) ∧ (d ≤ 0 → d ≤ rd (k * d) n ∧ rd (k * d) n ≤ 0) := by
  unfold rd
  have h2 : (0 : Int) < 2 * n := by omega
  refine ⟨fun hd => ⟨?_, ?_⟩, fun hd => ⟨?_, ?_⟩⟩
  · have : 0 ≤ k * d := Int.mul_nonneg hk.1 hd
    exact Int.ediv_nonneg (by omega) (by omega)
  · have h1 : k * d ≤ n * d := Int.mul_le_mul_of_nonneg_right hk.2 hd
    have h3 : 2 * (k * d) + n < (d + 1) * (2 * n) := by
      have : (d + 1) * (2 * n) = 2 * (n * d) + 2 * n := by
        rw [Int.add_mul, Int.one_mul, Int.mul_comm d (2 * n), Int.mul_assoc]
      omega
    have := Int.ediv_lt_of_lt_mul h2 h3
    omega
  · have h1 : n * d ≤ k * d := Int.mul_le_mul_of_nonpos_right hk.2 hd
    have h3 : d * (2 * n) ≤ 2 * (k * d) + n := by
      have : d * (2 * n) = 2 * (n * d) := by rw [Int.mul_comm d (2 * n), Int.mul_assoc]
      omega
    exact Int.le_ediv_of_mul_le h2 h3
  · have h1 : k * d ≤ 0 := Int.mul_nonpos_of_nonneg_of_nonpos hk.1 hd
    have h3 : 2 * (k * d) + n < 1 * (2 * n) := by omega
    have := Int.ediv_lt_of_lt_mul h2 h3
    omega
theorem lnp_r {a b n k lo hi : Int} (hn : 0 ≤ n) (hk : 0 ≤ k ∧ k ≤ n) (ha : lo ≤ a ∧ a ≤ hi) (hb : lo ≤ b ∧ b ≤ hi) : lo ≤ lnp a (b - a) n k ∧ lnp a (b - a) n k ≤ hi := by
  unfold lnp
  split
  · exact ha
  · have h := rd_r (d := b - a) (show 0 < n by omega) hk
    by_cases q : 0 ≤ b - a
    · have := h.1 q
      omega
    · have := h.2 (by omega)
      omega
/-- a PIXEL of a line is near -/
def nr1 (ax ay bx bY x y r n k : Int) : Bool := decide ((-r ≤ lnp ax (bx - ax) n k - x ∧ lnp ax (bx - ax) n k - x ≤ r) ∧ -r ≤ lnp ay (bY - ay) n k - y ∧ lnp ay (bY - ay) n k - y ≤ r)
def nrB (ax ay bx bY x y r n : Int) : Nat → Bool
  | 0 => false
  | k + 1 => nrB ax ay bx bY x y r n k || nr1 ax ay bx bY x y r n k
def near (ax ay bx bY x y r : Int) : Bool := nrB ax ay bx bY x y r (stp (bx - ax) (bY - ay)) (stp (bx - ax) (bY - ay) + 1).toNat
section LN
variable {E : AEn} {h h' : AHi} {hr : AHr} {n : Nat} {Q : ARs → Prop}
theorem nrB_t {ax ay bx bY x y r z : Int} {m : Nat} (h : nrB ax ay bx bY x y r z m = true) : ∀ k, nrB ax ay bx bY x y r z (m + k) = true := by
  intro k
  induction k with
  | zero => exact h
  | succ k ih =>
    show (nrB ax ay bx bY x y r z (m + k) || _) = true
    rw [ih]
    rfl
theorem nrB_s {ax ay bx bY x y r z k : Int} (h : 0 ≤ k) : nrB ax ay bx bY x y r z (k + 1).toNat = (nrB ax ay bx bY x y r z k.toNat || nr1 ax ay bx bY x y r z k) := by
  rw [show (k + 1).toNat = k.toNat + 1 by omega]
  show (nrB ax ay bx bY x y r z k.toNat || nr1 ax ay bx bY x y r z (k.toNat : Int)) = _
  rw [Int.toNat_of_nonneg h]
theorem s146z {x : Int64} : Sp E 146 [.long x, .long (L 0)] h hr n Q ↔ Q (some (.int (J 0)), h, hr, n) := by
  simp +decide (maxSteps := 4000000) (disch := omega) only [k146_0, k146_1, k146_2, k146_r, k146_s, F_ll2, T_L, T_lcmp, J_ifle, F_ll0, T_mulL, T_addL, T_l2i, T_goto, T_I, T_ft, T_ret, c348, ↓s348, lc_le, lc_gt, show ((0 : Int64) < 0) = False by decide, show (L 0 ≤ L 0) = True by decide, TK, le43, Int.le_refl, Int.lt_irrefl, Option.some.injEq, exists_eq_left', true_and, and_true, if_true, if_false, decide_eq_false_iff_not, decide_eq_true_eq, Nat.reduceAdd, Nat.reduceLeDiff, Nat.reduceLT, Int.reduceAdd, Int.reduceSub, Int.reduceMul, Int.reduceNeg, not_true_eq_false, not_false_eq_true]
theorem ab_le {v r : Int} : ((if 0 ≤ v then v else -v) ≤ r) = (-r ≤ v ∧ v ≤ r) := propext (by split <;> omega)
theorem ab_lt {v r : Int} : (r < (if 0 ≤ v then v else -v)) = ¬ (-r ≤ v ∧ v ≤ r) := propext (by split <;> omega)
theorem w121 (F : FH hr) (hn : 775 ≤ n) {a : Nat} (A : SB a) {s : Stk} (R : SR s) {q x y r : Int} (hq : 0 ≤ q ∧ q < s.2.1 - 1) (hx : 0 ≤ x ∧ x ≤ 47) (hy : 0 ≤ y ∧ y ≤ 31) (hr' : 0 ≤ r ∧ r ≤ 10) (C : SC h a s)
    (k : Q (some (.int (Bz (near (s.2.2.1 q) (s.2.2.2 q) (s.2.2.1 (q + 1)) (s.2.2.2 (q + 1)) x y r))), h, hr, n)) : Sp E 121 [.ref a, .int (J q), .int (J x), .int (J y), .int (J r)] h hr n Q := by
  have x1 := A.x E F
  have x2 := A.r
  have r2 := R.2.1
  have c1 := C.2 q hq.1 (by omega)
  have c2 := C.2 (q + 1) (by omega) (by omega)
  have b1 := R.2.2 q
  have b2 := R.2.2 (q + 1)
  unfold near at k
  generalize s.2.2.1 q = ax at *
  generalize s.2.2.2 q = ay at *
  generalize s.2.2.1 (q + 1) = bx at *
  generalize s.2.2.2 (q + 1) = bY at *
  have sr := stp_r (bx - ax) (bY - ay)
  have sm := stp_m (dx := bx - ax) (dy := bY - ay) (A := 47) (by omega) (by omega)
  have ax1 : 0 ≤ (if 0 ≤ bx - ax then bx - ax else -(bx - ax)) ∧ (if 0 ≤ bx - ax then bx - ax else -(bx - ax)) ≤ 47 := by split <;> omega
  have ay1 : 0 ≤ (if 0 ≤ bY - ay then bY - ay else -(bY - ay)) ∧ (if 0 ≤ bY - ay then bY - ay else -(bY - ay)) ≤ 47 := by split <;> omega
  simp +decide (maxSteps := 4000000) (disch := omega) only [k121_0, k121_2, k121_3, k121_r, k121_s, F_al0, T_getR, F_il1, T_I, T_add, X_iald, T_sub, F_is5i, F_is5r, F_is5m, F_is6i, F_is6r, F_is6m, F_il5, F_il6, F_is7i, F_is7r, F_is7m, F_is8i, F_is8r, F_is8m, T_ft, F_il8, F_il7, T_icgt, T_mul, T_i2l, F_is9i, F_is9r, F_is9m, F_is10i, F_is10r, F_is10m, F_il9, F_il2, F_il4, F_il10, F_il3, T_ret, F_inc8i, F_inc8r, F_inc8m, T_goto, c146, c346, c347, ↓s146, ↓s346, ↓s347, x1, c1, c2, stp_C, TK, lt_run hn, le43, Int.le_refl, Int.lt_irrefl, Option.some.injEq, exists_eq_left', true_and, and_true, if_true, if_false, decide_eq_false_iff_not, decide_eq_true_eq, Nat.reduceAdd, Nat.reduceLeDiff, Nat.reduceLT, Int.reduceAdd, Int.reduceSub, Int.reduceMul, Int.reduceNeg, not_true_eq_false, not_false_eq_true]
  generalize stp (bx - ax) (bY - ay) = z at *
  refine T_for (σ := Value × Value) (fun i v => [.ref a, .int (J q), .int (J x), .int (J y), .int (J r), .int (J (bx - ax)), .int (J (bY - ay)), .int (J z), .int (J i), v.1, v.2]) (fun i v h' => h' = h ∧ nrB ax ay bx bY x y r z i.toNat = false) 0 (z + 1) ?_ ?_ 0 (a_mk, a_mk) h (by omega) (by omega) ⟨rfl, rfl⟩
  · rintro i ⟨v1, v2⟩ h' i0 i1 ⟨rfl, hp⟩ ih
    dsimp only
    have ns := nrB_s (ax := ax) (ay := ay) (bx := bx) (bY := bY) (x := x) (y := y) (r := r) (z := z) i0
    rw [hp, Bool.false_or] at ns
    have l1 := lnp_r (a := ax) (b := bx) (n := z) (k := i) (lo := 0) (hi := 47) (by omega) (by omega) (by omega) (by omega)
    have l2 := lnp_r (a := ay) (b := bY) (n := z) (k := i) (lo := 0) (hi := 31) (by omega) (by omega) (by omega) (by omega)
    have mb1 := mulb (a := i) (b := bx - ax) (A := 47) (B := 47) (by omega) (by omega)
    have mb2 := mulb (a := i) (b := bY - ay) (A := 47) (B := 47) (by omega) (by omega)
    have cont : ¬ ((-r ≤ lnp ax (bx - ax) z i - x ∧ lnp ax (bx - ax) z i - x ≤ r) ∧ -r ≤ lnp ay (bY - ay) z i - y ∧ lnp ay (bY - ay) z i - y ≤ r) → nrB ax ay bx bY x y r z (i + 1).toNat = false := fun g => by
      rw [ns]
      exact decide_eq_false g
    have hit : ((-r ≤ lnp ax (bx - ax) z i - x ∧ lnp ax (bx - ax) z i - x ≤ r) ∧ -r ≤ lnp ay (bY - ay) z i - y ∧ lnp ay (bY - ay) z i - y ≤ r) → Q (some (.int (J 1)), h', hr, n) := fun g => by
      have e1 : nrB ax ay bx bY x y r z (i + 1).toNat = true := by
        rw [ns]
        exact decide_eq_true g
      have e2 := nrB_t e1 (z - i).toNat
      rw [show (i + 1).toNat + (z - i).toNat = (z + 1).toNat by omega] at e2
      rw [e2] at k
      exact k
    by_cases g0 : z = 0
    · have ei : i = 0 := by omega
      have e1 : lnp ax (bx - ax) z i = ax := if_pos g0
      have e2 : lnp ay (bY - ay) z i = ay := if_pos g0
      rw [e1, e2] at cont hit
      by_cases g1 : -r ≤ ax - x ∧ ax - x ≤ r
      · by_cases g2 : -r ≤ ay - y ∧ ay - y ≤ r
        · rw [k121_1]
          simp +decide (maxSteps := 4000000) (disch := omega) only [k121_0, k121_2, k121_3, k121_r, k121_s, F_al0, T_getR, F_il1, T_I, T_add, X_iald, T_sub, F_is5i, F_is5r, F_is5m, F_is6i, F_is6r, F_is6m, F_il5, F_il6, F_is7i, F_is7r, F_is7m, F_is8i, F_is8r, F_is8m, T_ft, F_il8, F_il7, T_icgt, T_mul, T_i2l, F_is9i, F_is9r, F_is9m, F_is10i, F_is10r, F_is10m, F_il9, F_il2, F_il4, F_il10, F_il3, T_ret, F_inc8i, F_inc8r, F_inc8m, T_goto, c146, c346, c347, ↓s146, ↓s346, ↓s347, x1, c1, J_l, s146z, g0, ei, Int.zero_mul, Int.add_zero, ab_lt, g1, g2, TK, lt_run hn, le43, Int.le_refl, Int.lt_irrefl, Option.some.injEq, exists_eq_left', true_and, and_true, if_true, if_false, decide_eq_false_iff_not, decide_eq_true_eq, Nat.reduceAdd, Nat.reduceLeDiff, Nat.reduceLT, Int.reduceAdd, Int.reduceSub, Int.reduceMul, Int.reduceNeg, not_true_eq_false, not_false_eq_true]
          exact hit ⟨g1, g2⟩
        · rw [k121_1]
          simp +decide (maxSteps := 4000000) (disch := omega) only [k121_0, k121_2, k121_3, k121_r, k121_s, F_al0, T_getR, F_il1, T_I, T_add, X_iald, T_sub, F_is5i, F_is5r, F_is5m, F_is6i, F_is6r, F_is6m, F_il5, F_il6, F_is7i, F_is7r, F_is7m, F_is8i, F_is8r, F_is8m, T_ft, F_il8, F_il7, T_icgt, T_mul, T_i2l, F_is9i, F_is9r, F_is9m, F_is10i, F_is10r, F_is10m, F_il9, F_il2, F_il4, F_il10, F_il3, T_ret, F_inc8i, F_inc8r, F_inc8m, T_goto, c146, c346, c347, ↓s146, ↓s346, ↓s347, x1, c1, J_l, s146z, g0, ei, Int.zero_mul, Int.add_zero, ab_lt, g1, g2, TK, lt_run hn, le43, Int.le_refl, Int.lt_irrefl, Option.some.injEq, exists_eq_left', true_and, and_true, if_true, if_false, decide_eq_false_iff_not, decide_eq_true_eq, Nat.reduceAdd, Nat.reduceLeDiff, Nat.reduceLT, Int.reduceAdd, Int.reduceSub, Int.reduceMul, Int.reduceNeg, not_true_eq_false, not_false_eq_true]
          have := ih (.int (J ax), .int (J ay)) h' ⟨rfl, cont (fun q => g2 q.2)⟩
          rw [g0, ei] at this
          exact this
      · rw [k121_1]
        simp +decide (maxSteps := 4000000) (disch := omega) only [k121_0, k121_2, k121_3, k121_r, k121_s, F_al0, T_getR, F_il1, T_I, T_add, X_iald, T_sub, F_is5i, F_is5r, F_is5m, F_is6i, F_is6r, F_is6m, F_il5, F_il6, F_is7i, F_is7r, F_is7m, F_is8i, F_is8r, F_is8m, T_ft, F_il8, F_il7, T_icgt, T_mul, T_i2l, F_is9i, F_is9r, F_is9m, F_is10i, F_is10r, F_is10m, F_il9, F_il2, F_il4, F_il10, F_il3, T_ret, F_inc8i, F_inc8r, F_inc8m, T_goto, c146, c346, c347, ↓s146, ↓s346, ↓s347, x1, c1, J_l, s146z, g0, ei, Int.zero_mul, Int.add_zero, ab_lt, g1, TK, lt_run hn, le43, Int.le_refl, Int.lt_irrefl, Option.some.injEq, exists_eq_left', true_and, and_true, if_true, if_false, decide_eq_false_iff_not, decide_eq_true_eq, Nat.reduceAdd, Nat.reduceLeDiff, Nat.reduceLT, Int.reduceAdd, Int.reduceSub, Int.reduceMul, Int.reduceNeg, not_true_eq_false, not_false_eq_true]
        have := ih (.int (J ax), .int (J ay)) h' ⟨rfl, cont (fun q => g1 q.1)⟩
        rw [g0, ei] at this
        exact this
    · have e1 : lnp ax (bx - ax) z i = ax + rd (i * (bx - ax)) z := if_neg g0
      have e2 : lnp ay (bY - ay) z i = ay + rd (i * (bY - ay)) z := if_neg g0
      rw [e1] at cont hit l1
      rw [e2] at cont hit l2
      by_cases g1 : -r ≤ ax + rd (i * (bx - ax)) z - x ∧ ax + rd (i * (bx - ax)) z - x ≤ r
      · by_cases g2 : -r ≤ ay + rd (i * (bY - ay)) z - y ∧ ay + rd (i * (bY - ay)) z - y ≤ r
        · rw [k121_1]
          simp +decide (maxSteps := 4000000) (disch := omega) only [k121_0, k121_2, k121_3, k121_r, k121_s, F_al0, T_getR, F_il1, T_I, T_add, X_iald, T_sub, F_is5i, F_is5r, F_is5m, F_is6i, F_is6r, F_is6m, F_il5, F_il6, F_is7i, F_is7r, F_is7m, F_is8i, F_is8r, F_is8m, T_ft, F_il8, F_il7, T_icgt, T_mul, T_i2l, F_is9i, F_is9r, F_is9m, F_is10i, F_is10r, F_is10m, F_il9, F_il2, F_il4, F_il10, F_il3, T_ret, F_inc8i, F_inc8r, F_inc8m, T_goto, c146, c346, c347, ↓s146, ↓s346, ↓s347, x1, c1, J_l, ab_lt, g1, g2, show ¬ z < i by omega, TK, lt_run hn, le43, Int.le_refl, Int.lt_irrefl, Option.some.injEq, exists_eq_left', true_and, and_true, if_true, if_false, decide_eq_false_iff_not, decide_eq_true_eq, Nat.reduceAdd, Nat.reduceLeDiff, Nat.reduceLT, Int.reduceAdd, Int.reduceSub, Int.reduceMul, Int.reduceNeg, not_true_eq_false, not_false_eq_true]
          exact hit ⟨g1, g2⟩
        · rw [k121_1]
          simp +decide (maxSteps := 4000000) (disch := omega) only [k121_0, k121_2, k121_3, k121_r, k121_s, F_al0, T_getR, F_il1, T_I, T_add, X_iald, T_sub, F_is5i, F_is5r, F_is5m, F_is6i, F_is6r, F_is6m, F_il5, F_il6, F_is7i, F_is7r, F_is7m, F_is8i, F_is8r, F_is8m, T_ft, F_il8, F_il7, T_icgt, T_mul, T_i2l, F_is9i, F_is9r, F_is9m, F_is10i, F_is10r, F_is10m, F_il9, F_il2, F_il4, F_il10, F_il3, T_ret, F_inc8i, F_inc8r, F_inc8m, T_goto, c146, c346, c347, ↓s146, ↓s346, ↓s347, x1, c1, J_l, ab_lt, g1, g2, show ¬ z < i by omega, TK, lt_run hn, le43, Int.le_refl, Int.lt_irrefl, Option.some.injEq, exists_eq_left', true_and, and_true, if_true, if_false, decide_eq_false_iff_not, decide_eq_true_eq, Nat.reduceAdd, Nat.reduceLeDiff, Nat.reduceLT, Int.reduceAdd, Int.reduceSub, Int.reduceMul, Int.reduceNeg, not_true_eq_false, not_false_eq_true]
          exact ih (_, _) h' ⟨rfl, cont (fun q => g2 q.2)⟩
      · rw [k121_1]
        simp +decide (maxSteps := 4000000) (disch := omega) only [k121_0, k121_2, k121_3, k121_r, k121_s, F_al0, T_getR, F_il1, T_I, T_add, X_iald, T_sub, F_is5i, F_is5r, F_is5m, F_is6i, F_is6r, F_is6m, F_il5, F_il6, F_is7i, F_is7r, F_is7m, F_is8i, F_is8r, F_is8m, T_ft, F_il8, F_il7, T_icgt, T_mul, T_i2l, F_is9i, F_is9r, F_is9m, F_is10i, F_is10r, F_is10m, F_il9, F_il2, F_il4, F_il10, F_il3, T_ret, F_inc8i, F_inc8r, F_inc8m, T_goto, c146, c346, c347, ↓s146, ↓s346, ↓s347, x1, c1, J_l, ab_lt, g1, show ¬ z < i by omega, TK, lt_run hn, le43, Int.le_refl, Int.lt_irrefl, Option.some.injEq, exists_eq_left', true_and, and_true, if_true, if_false, decide_eq_false_iff_not, decide_eq_true_eq, Nat.reduceAdd, Nat.reduceLeDiff, Nat.reduceLT, Int.reduceAdd, Int.reduceSub, Int.reduceMul, Int.reduceNeg, not_true_eq_false, not_false_eq_true]
        exact ih (_, _) h' ⟨rfl, cont (fun q => g1 q.1)⟩
  · rintro ⟨v1, v2⟩ h' ⟨rfl, hp⟩
    dsimp only
    rw [k121_1]
    simp +decide (maxSteps := 4000000) (disch := omega) only [k121_0, k121_2, k121_3, k121_r, k121_s, F_al0, T_getR, F_il1, T_I, T_add, X_iald, T_sub, F_is5i, F_is5r, F_is5m, F_is6i, F_is6r, F_is6m, F_il5, F_il6, F_is7i, F_is7r, F_is7m, F_is8i, F_is8r, F_is8m, T_ft, F_il8, F_il7, T_icgt, T_mul, T_i2l, F_is9i, F_is9r, F_is9m, F_is10i, F_is10r, F_is10m, F_il9, F_il2, F_il4, F_il10, F_il3, T_ret, F_inc8i, F_inc8r, F_inc8m, T_goto, c146, c346, c347, ↓s146, ↓s346, ↓s347, show z < z + 1 by omega, TK, lt_run hn, le43, Int.le_refl, Int.lt_irrefl, Option.some.injEq, exists_eq_left', true_and, and_true, if_true, if_false, decide_eq_false_iff_not, decide_eq_true_eq, Nat.reduceAdd, Nat.reduceLeDiff, Nat.reduceLT, Int.reduceAdd, Int.reduceSub, Int.reduceMul, Int.reduceNeg, not_true_eq_false, not_false_eq_true]
    rw [hp] at k
    exact k
theorem s242 (hn : 775 ≤ n) {ax ay bx bY k : Int} (h1 : -1000 ≤ ax ∧ ax ≤ 1000) (h2 : -1000 ≤ ay ∧ ay ≤ 1000) (h3 : -1000 ≤ bx ∧ bx ≤ 1000) (h4 : -1000 ≤ bY ∧ bY ≤ 1000) (hk : 0 ≤ k ∧ k ≤ 5000) : Sp E 242 [.ref 704, .int (J ax), .int (J ay), .int (J bx), .int (J bY), .int (J k)] h hr n Q ↔ Q (none, hI (hI h 704 16 (J (lnp ax (bx - ax) (stp (bx - ax) (bY - ay)) k))) 704 17 (J (lnp ay (bY - ay) (stp (bx - ax) (bY - ay)) k)), hr, n) := by
  have sr := stp_r (bx - ax) (bY - ay)
  have sm := stp_m (dx := bx - ax) (dy := bY - ay) (A := 2000) (by omega) (by omega)
  have mb1 := mulb (a := k) (b := bx - ax) (A := 5000) (B := 2000) (by omega) (by omega)
  have mb2 := mulb (a := k) (b := bY - ay) (A := 5000) (B := 2000) (by omega) (by omega)
  unfold lnp
  by_cases g : stp (bx - ax) (bY - ay) = 0
  · rw [if_pos g, if_pos g]
    simp +decide (maxSteps := 4000000) (disch := omega) only [k242_0, k242_1, k242_2, k242_3, k242_4, k242_r, k242_s, F_il1, F_il2, F_il3, F_il4, F_is6i, F_is6r, F_is6m, F_al0, F_il6, J_ifne, T_goto, F_il5, T_i2l, T_sub, T_mulL, T_add, T_ft, T_putI, T_putZ, T_ret, c239, c243, ↓s239, ↓s243, g, kd_704, TK, lt_run hn, le43, Int.le_refl, Int.lt_irrefl, Option.some.injEq, exists_eq_left', true_and, and_true, if_true, if_false, decide_eq_false_iff_not, decide_eq_true_eq, Nat.reduceAdd, Nat.reduceLeDiff, Nat.reduceLT, Int.reduceAdd, Int.reduceSub, Int.reduceMul, Int.reduceNeg, not_true_eq_false, not_false_eq_true]
  · rw [if_neg g, if_neg g]
    simp +decide (maxSteps := 4000000) (disch := omega) only [k242_0, k242_1, k242_2, k242_3, k242_4, k242_r, k242_s, F_il1, F_il2, F_il3, F_il4, F_is6i, F_is6r, F_is6m, F_al0, F_il6, J_ifne, T_goto, F_il5, T_i2l, T_sub, T_mulL, T_add, T_ft, T_putI, T_putZ, T_ret, c239, c243, ↓s239, ↓s243, g, J_l, kd_704, TK, lt_run hn, le43, Int.le_refl, Int.lt_irrefl, Option.some.injEq, exists_eq_left', true_and, and_true, if_true, if_false, decide_eq_false_iff_not, decide_eq_true_eq, Nat.reduceAdd, Nat.reduceLeDiff, Nat.reduceLT, Int.reduceAdd, Int.reduceSub, Int.reduceMul, Int.reduceNeg, not_true_eq_false, not_false_eq_true]
theorem w238 (F : FH hr) (hn : 775 ≤ n) {ax ay bx bY x y r : Int} (h1 : 0 ≤ ax ∧ ax ≤ 47) (h2 : 0 ≤ ay ∧ ay ≤ 31) (h3 : 0 ≤ bx ∧ bx ≤ 47) (h4 : 0 ≤ bY ∧ bY ≤ 31) (hx : 0 ≤ x ∧ x ≤ 47) (hy : 0 ≤ y ∧ y ≤ 31) (hr' : 0 ≤ r ∧ r ≤ 10)
    (k : ∀ h', Ef (fun a k => a = 704 ∧ (k = 16 ∨ k = 17)) h h' → Q (some (.int (Bz (near ax ay bx bY x y r))), h', hr, n)) : Sp E 238 [.ref 704, .int (J ax), .int (J ay), .int (J bx), .int (J bY), .int (J x), .int (J y), .int (J r)] h hr n Q := by
  have sr := stp_r (bx - ax) (bY - ay)
  have sm := stp_m (dx := bx - ax) (dy := bY - ay) (A := 47) (by omega) (by omega)
  unfold near at k
  simp +decide (maxSteps := 4000000) (disch := omega) only [k238_0, k238_2, k238_3, k238_4, k238_5, k238_r, k238_s, T_I, F_is8i, F_is8r, F_is8m, F_il1, F_il2, F_il3, F_il4, F_is9i, F_is9r, F_is9m, F_is10i, F_is10r, F_is10m, T_ft, F_il10, F_il9, T_icgt, F_al0, F_il8, J_ifne, T_getI, F_il5, T_sub, F_il7, F_il6, T_goto, F_inc10i, F_inc10r, F_inc10m, T_ret, c239, c240, c242, ↓s239, ↓s240, ↓s242, TK, lt_run hn, le43, Int.le_refl, Int.lt_irrefl, Option.some.injEq, exists_eq_left', true_and, and_true, if_true, if_false, decide_eq_false_iff_not, decide_eq_true_eq, Nat.reduceAdd, Nat.reduceLeDiff, Nat.reduceLT, Int.reduceAdd, Int.reduceSub, Int.reduceMul, Int.reduceNeg, not_true_eq_false, not_false_eq_true]
  refine T_for (σ := Bool) (fun i v => [.ref 704, .int (J ax), .int (J ay), .int (J bx), .int (J bY), .int (J x), .int (J y), .int (J r), .int (Bz v), .int (J (stp (bx - ax) (bY - ay))), .int (J i)]) (fun i v h' => Ef (fun a k => a = 704 ∧ (k = 16 ∨ k = 17)) h h' ∧ v = nrB ax ay bx bY x y r (stp (bx - ax) (bY - ay)) i.toNat) 0 (stp (bx - ax) (bY - ay) + 1) ?_ ?_ 0 false h (by omega) (by omega) ⟨Ef.refl, rfl⟩
  · rintro i v h1 i0 i1 ⟨e1, hv⟩ ih
    have ns := nrB_s (ax := ax) (ay := ay) (bx := bx) (bY := bY) (x := x) (y := y) (r := r) (z := stp (bx - ax) (bY - ay)) i0
    rw [← hv] at ns
    have l1 := lnp_r (a := ax) (b := bx) (n := stp (bx - ax) (bY - ay)) (k := i) (lo := 0) (hi := 47) (by omega) (by omega) (by omega) (by omega)
    have l2 := lnp_r (a := ay) (b := bY) (n := stp (bx - ax) (bY - ay)) (k := i) (lo := 0) (hi := 31) (by omega) (by omega) (by omega) (by omega)
    have q16 : ∀ (u v : Int32), hI (hI h1 704 16 u) 704 17 v 704 16 = u := fun u v => by rw [hI_k (by decide), hI_s]
    have e2 : ∀ (u v : Int32), Ef (fun a k => a = 704 ∧ (k = 16 ∨ k = 17)) h (hI (hI h1 704 16 u) 704 17 v) := fun u v => (e1.hI ⟨rfl, Or.inl rfl⟩).hI ⟨rfl, Or.inr rfl⟩
    cases v with
    | true =>
      rw [k238_1]
      simp +decide (maxSteps := 4000000) (disch := omega) only [k238_0, k238_2, k238_3, k238_4, k238_5, k238_r, k238_s, T_I, F_is8i, F_is8r, F_is8m, F_il1, F_il2, F_il3, F_il4, F_is9i, F_is9r, F_is9m, F_is10i, F_is10r, F_is10m, T_ft, F_il10, F_il9, T_icgt, F_al0, F_il8, J_ifne, T_getI, F_il5, T_sub, F_il7, F_il6, T_goto, F_inc10i, F_inc10r, F_inc10m, T_ret, c239, c240, c242, ↓s239, ↓s240, ↓s242, FM F, Bz_t, show ¬ stp (bx - ax) (bY - ay) < i by omega, kd_704, TK, lt_run hn, le43, Int.le_refl, Int.lt_irrefl, Option.some.injEq, exists_eq_left', true_and, and_true, if_true, if_false, decide_eq_false_iff_not, decide_eq_true_eq, Nat.reduceAdd, Nat.reduceLeDiff, Nat.reduceLT, Int.reduceAdd, Int.reduceSub, Int.reduceMul, Int.reduceNeg, not_true_eq_false, not_false_eq_true]
      refine ih true _ ⟨e2 _ _, ?_⟩
      rw [ns]
      rfl
    | false =>
      rw [Bool.false_or] at ns
      by_cases g1 : -r ≤ lnp ax (bx - ax) (stp (bx - ax) (bY - ay)) i - x ∧ lnp ax (bx - ax) (stp (bx - ax) (bY - ay)) i - x ≤ r
      · by_cases g2 : -r ≤ lnp ay (bY - ay) (stp (bx - ax) (bY - ay)) i - y ∧ lnp ay (bY - ay) (stp (bx - ax) (bY - ay)) i - y ≤ r
        · rw [k238_1]
          simp +decide (maxSteps := 4000000) (disch := omega) only [k238_0, k238_2, k238_3, k238_4, k238_5, k238_r, k238_s, T_I, F_is8i, F_is8r, F_is8m, F_il1, F_il2, F_il3, F_il4, F_is9i, F_is9r, F_is9m, F_is10i, F_is10r, F_is10m, T_ft, F_il10, F_il9, T_icgt, F_al0, F_il8, J_ifne, T_getI, F_il5, T_sub, F_il7, F_il6, T_goto, F_inc10i, F_inc10r, F_inc10m, T_ret, c239, c240, c242, ↓s239, ↓s240, ↓s242, FM F, Bz_f, q16, hI_s, ab_lt, g1, g2, show ¬ stp (bx - ax) (bY - ay) < i by omega, kd_704, TK, lt_run hn, le43, Int.le_refl, Int.lt_irrefl, Option.some.injEq, exists_eq_left', true_and, and_true, if_true, if_false, decide_eq_false_iff_not, decide_eq_true_eq, Nat.reduceAdd, Nat.reduceLeDiff, Nat.reduceLT, Int.reduceAdd, Int.reduceSub, Int.reduceMul, Int.reduceNeg, not_true_eq_false, not_false_eq_true]
          refine ih true _ ⟨e2 _ _, ?_⟩
          rw [ns]
          exact (decide_eq_true ⟨g1, g2⟩).symm
        · rw [k238_1]
          simp +decide (maxSteps := 4000000) (disch := omega) only [k238_0, k238_2, k238_3, k238_4, k238_5, k238_r, k238_s, T_I, F_is8i, F_is8r, F_is8m, F_il1, F_il2, F_il3, F_il4, F_is9i, F_is9r, F_is9m, F_is10i, F_is10r, F_is10m, T_ft, F_il10, F_il9, T_icgt, F_al0, F_il8, J_ifne, T_getI, F_il5, T_sub, F_il7, F_il6, T_goto, F_inc10i, F_inc10r, F_inc10m, T_ret, c239, c240, c242, ↓s239, ↓s240, ↓s242, FM F, Bz_f, q16, hI_s, ab_lt, g1, g2, show ¬ stp (bx - ax) (bY - ay) < i by omega, kd_704, TK, lt_run hn, le43, Int.le_refl, Int.lt_irrefl, Option.some.injEq, exists_eq_left', true_and, and_true, if_true, if_false, decide_eq_false_iff_not, decide_eq_true_eq, Nat.reduceAdd, Nat.reduceLeDiff, Nat.reduceLT, Int.reduceAdd, Int.reduceSub, Int.reduceMul, Int.reduceNeg, not_true_eq_false, not_false_eq_true]
          refine ih false _ ⟨e2 _ _, ?_⟩
          rw [ns]
          exact (decide_eq_false (fun q => g2 q.2)).symm
      · rw [k238_1]
        simp +decide (maxSteps := 4000000) (disch := omega) only [k238_0, k238_2, k238_3, k238_4, k238_5, k238_r, k238_s, T_I, F_is8i, F_is8r, F_is8m, F_il1, F_il2, F_il3, F_il4, F_is9i, F_is9r, F_is9m, F_is10i, F_is10r, F_is10m, T_ft, F_il10, F_il9, T_icgt, F_al0, F_il8, J_ifne, T_getI, F_il5, T_sub, F_il7, F_il6, T_goto, F_inc10i, F_inc10r, F_inc10m, T_ret, c239, c240, c242, ↓s239, ↓s240, ↓s242, FM F, Bz_f, q16, hI_s, ab_lt, g1, show ¬ stp (bx - ax) (bY - ay) < i by omega, kd_704, TK, lt_run hn, le43, Int.le_refl, Int.lt_irrefl, Option.some.injEq, exists_eq_left', true_and, and_true, if_true, if_false, decide_eq_false_iff_not, decide_eq_true_eq, Nat.reduceAdd, Nat.reduceLeDiff, Nat.reduceLT, Int.reduceAdd, Int.reduceSub, Int.reduceMul, Int.reduceNeg, not_true_eq_false, not_false_eq_true]
        refine ih false _ ⟨e2 _ _, ?_⟩
        rw [ns]
        exact (decide_eq_false (fun q => g1 q.1)).symm
  · rintro v h1 ⟨e1, hv⟩
    rw [k238_1]
    simp +decide (maxSteps := 4000000) (disch := omega) only [k238_0, k238_2, k238_3, k238_4, k238_5, k238_r, k238_s, T_I, F_is8i, F_is8r, F_is8m, F_il1, F_il2, F_il3, F_il4, F_is9i, F_is9r, F_is9m, F_is10i, F_is10r, F_is10m, T_ft, F_il10, F_il9, T_icgt, F_al0, F_il8, J_ifne, T_getI, F_il5, T_sub, F_il7, F_il6, T_goto, F_inc10i, F_inc10r, F_inc10m, T_ret, c239, c240, c242, ↓s239, ↓s240, ↓s242, show stp (bx - ax) (bY - ay) < stp (bx - ax) (bY - ay) + 1 by omega, TK, lt_run hn, le43, Int.le_refl, Int.lt_irrefl, Option.some.injEq, exists_eq_left', true_and, and_true, if_true, if_false, decide_eq_false_iff_not, decide_eq_true_eq, Nat.reduceAdd, Nat.reduceLeDiff, Nat.reduceLT, Int.reduceAdd, Int.reduceSub, Int.reduceMul, Int.reduceNeg, not_true_eq_false, not_false_eq_true]
    rw [hv]
    exact k h1 e1
end LN
