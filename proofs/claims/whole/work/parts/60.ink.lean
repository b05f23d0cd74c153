/-! INK: lines on a picture -/
/-- the place of step k of a line -/
def lnq (ax ay bx bY k : Int) : Int := lnp ay (bY - ay) (stp (bx - ax) (bY - ay)) k * 48 + lnp ax (bx - ax) (stp (bx - ax) (bY - ay)) k
/-- a picture with the first steps of a line -/
def ldr (f : Int → Int) (v ax ay bx bY : Int) : Nat → Int → Int
  | 0 => f
  | k + 1 => upd1 (ldr f v ax ay bx bY k) (lnq ax ay bx bY k) v
def lin (f : Int → Int) (v ax ay bx bY : Int) : Int → Int := ldr f v ax ay bx bY (stp (bx - ax) (bY - ay) + 1).toNat
/-- a row of ints holds a picture -/
def PA (h : AHi) (g : Nat) (f : Int → Int) : Prop := ∀ q, 0 ≤ q → q < 1536 → gA h g q = J (f q)
/-- a row of truths holds where a picture is not 0 -/
def PB (h : AHi) (g : Nat) (f : Int → Int) : Prop := ∀ q, 0 ≤ q → q < 1536 → gA h g q = Bz (decide (f q ≠ 0))
/-- a point of the paper -/
def onP (x y : Int) : Prop := (0 ≤ x ∧ x ≤ 47) ∧ 0 ≤ y ∧ y ≤ 31
section IK
variable {E : AEn} {h h' : AHi} {hr : AHr} {n : Nat} {Q : ARs → Prop} {f : Int → Int}
theorem ldr_s {v ax ay bx bY k : Int} (h : 0 ≤ k) : ldr f v ax ay bx bY (k + 1).toNat = upd1 (ldr f v ax ay bx bY k.toNat) (lnq ax ay bx bY k) v := by
  rw [show (k + 1).toNat = k.toNat + 1 by omega]
  show upd1 (ldr f v ax ay bx bY k.toNat) (lnq ax ay bx bY (k.toNat : Int)) v = _
  rw [Int.toNat_of_nonneg h]
theorem ln_on {ax ay bx bY k : Int} (h1 : onP ax ay) (h2 : onP bx bY) (hk : 0 ≤ k ∧ k ≤ stp (bx - ax) (bY - ay)) : (0 ≤ lnp ax (bx - ax) (stp (bx - ax) (bY - ay)) k ∧ lnp ax (bx - ax) (stp (bx - ax) (bY - ay)) k ≤ 47) ∧ (0 ≤ lnp ay (bY - ay) (stp (bx - ax) (bY - ay)) k ∧ lnp ay (bY - ay) (stp (bx - ax) (bY - ay)) k ≤ 31) := by
  have sr := stp_r (bx - ax) (bY - ay)
  exact ⟨lnp_r sr.1 hk h1.1 h2.1, lnp_r sr.1 hk h1.2 h2.2⟩
theorem PA.set {g : Nat} (P : PA h g f) {q v : Int} (hq : 0 ≤ q) : PA (sA h g q (J v)) g (upd1 f q v) := fun p p0 p1 => by
  unfold upd1
  by_cases e : p = q
  · rw [e, gs_s, if_pos rfl]
  · rw [gs_k hq p0 e, if_neg e]
    exact P p p0 p1
theorem PA.ef {S : Nat → Nat → Prop} {g : Nat} (P : PA h g f) (e : Ef S h h') (hs : ∀ k, ¬ S g k) : PA h' g f := fun p p0 p1 => by rw [e.g (hs _)]; exact P p p0 p1
theorem PB.ef {S : Nat → Nat → Prop} {g : Nat} (P : PB h g f) (e : Ef S h h') (hs : ∀ k, ¬ S g k) : PB h' g f := fun p p0 p1 => by rw [e.g (hs _)]; exact P p p0 p1
theorem PB.set {g : Nat} (P : PB h g f) {q v : Int} (hq : 0 ≤ q) (hv : v ≠ 0) : PB (sA h g q (J 1)) g (upd1 f q v) := fun p p0 p1 => by
  unfold upd1
  by_cases e : p = q
  · rw [e, gs_s, if_pos rfl, decide_eq_true hv]
    rfl
  · rw [gs_k hq p0 e, if_neg e]
    exact P p p0 p1
theorem rd_2 (k d m : Int) : (2 * k * d + m) / (2 * m) = rd (k * d) m := by
  unfold rd
  rw [Int.mul_assoc]
theorem w32 (hn : 775 ≤ n) {g : Nat} {v ax ay bx bY : Int} (g1 : a_kd g = 20) (g2 : a_ln E g = 1536) (g3 : 43 ≤ g ∧ g < 775) (h1 : onP ax ay) (h2 : onP bx bY) (P : PA h g f)
    (k : ∀ h', PA h' g (lin f v ax ay bx bY) → Ef (fun a _ => a = g) h h' → Q (none, h', hr, n)) : Sp E 32 [.ref g, .int (J v), .int (J ax), .int (J ay), .int (J bx), .int (J bY)] h hr n Q := by
  obtain ⟨p1, p2⟩ := id h1
  obtain ⟨p3, p4⟩ := id h2
  have sr := stp_r (bx - ax) (bY - ay)
  have sm := stp_m (dx := bx - ax) (dy := bY - ay) (A := 47) (by omega) (by omega)
  have ax1 : 0 ≤ (if 0 ≤ bx - ax then bx - ax else -(bx - ax)) ∧ (if 0 ≤ bx - ax then bx - ax else -(bx - ax)) ≤ 47 := by split <;> omega
  have ay1 : 0 ≤ (if 0 ≤ bY - ay then bY - ay else -(bY - ay)) ∧ (if 0 ≤ bY - ay then bY - ay else -(bY - ay)) ≤ 47 := by split <;> omega
  simp +decide (maxSteps := 4000000) (disch := omega) only [k32_0, k32_2, k32_3, k32_4, k32_5, k32_6, k32_7, k32_r, k32_s, F_il4, F_il2, T_sub, F_is6i, F_is6r, F_is6m, F_il5, F_il3, F_is7i, F_is7r, F_is7m, F_il6, F_il7, F_is8i, F_is8r, F_is8m, T_I, F_is9i, F_is9r, F_is9m, T_ft, F_il9, F_il8, T_icgt, J_ifne, T_goto, T_mul, T_add, F_is10i, F_is10r, F_is10m, F_is11i, F_is11r, F_is11m, F_il10, F_il11, J_ifeq, F_al0, F_il1, T_iast, F_inc9i, F_inc9r, F_inc9m, T_ret, c145, c151, c346, c347, c350, ↓s145, ↓s151, ↓s346, ↓s347, ↓s350, stp_C, TK, lt_run hn, le43, Int.le_refl, Int.lt_irrefl, Option.some.injEq, exists_eq_left', true_and, and_true, if_true, if_false, decide_eq_false_iff_not, decide_eq_true_eq, Nat.reduceAdd, Nat.reduceLeDiff, Nat.reduceLT, Int.reduceAdd, Int.reduceSub, Int.reduceMul, Int.reduceNeg, not_true_eq_false, not_false_eq_true]
  refine T_for (σ := Value × Value) (fun i u => [.ref g, .int (J v), .int (J ax), .int (J ay), .int (J bx), .int (J bY), .int (J (bx - ax)), .int (J (bY - ay)), .int (J (stp (bx - ax) (bY - ay))), .int (J i), u.1, u.2]) (fun i u h' => Ef (fun a _ => a = g) h h' ∧ PA h' g (ldr f v ax ay bx bY i.toNat)) 0 (stp (bx - ax) (bY - ay) + 1) ?_ ?_ 0 (a_mk, a_mk) h (by omega) (by omega) ⟨Ef.refl, P⟩
  · rintro i ⟨u1, u2⟩ h1' i0 i1 ⟨e1, P1⟩ ih
    dsimp only
    have lo := ln_on h1 h2 (k := i) (by omega)
    have ls := ldr_s (f := f) (v := v) (ax := ax) (ay := ay) (bx := bx) (bY := bY) i0
    have mb1 := mulb (a := 2 * i) (b := bx - ax) (A := 94) (B := 47) (by omega) (by omega)
    have mb2 := mulb (a := 2 * i) (b := bY - ay) (A := 94) (B := 47) (by omega) (by omega)
    have ef : lnq ax ay bx bY i = lnp ay (bY - ay) (stp (bx - ax) (bY - ay)) i * 48 + lnp ax (bx - ax) (stp (bx - ax) (bY - ay)) i := rfl
    have go : Tm E 32 (a_bl 32 5) [.ref g, .int (J v), .int (J ax), .int (J ay), .int (J bx), .int (J bY), .int (J (bx - ax)), .int (J (bY - ay)), .int (J (stp (bx - ax) (bY - ay))), .int (J i), .int (J (lnp ax (bx - ax) (stp (bx - ax) (bY - ay)) i)), u2] [.int (J (lnp ay (bY - ay) (stp (bx - ax) (bY - ay)) i))] h1' hr n Q := by
      rw [k32_5]
      simp +decide (maxSteps := 4000000) (disch := omega) only [k32_0, k32_2, k32_3, k32_4, k32_5, k32_6, k32_7, k32_r, k32_s, F_il4, F_il2, T_sub, F_is6i, F_is6r, F_is6m, F_il5, F_il3, F_is7i, F_is7r, F_is7m, F_il6, F_il7, F_is8i, F_is8r, F_is8m, T_I, F_is9i, F_is9r, F_is9m, T_ft, F_il9, F_il8, T_icgt, J_ifne, T_goto, T_mul, T_add, F_is10i, F_is10r, F_is10m, F_is11i, F_is11r, F_is11m, F_il10, F_il11, J_ifeq, F_al0, F_il1, T_iast, F_inc9i, F_inc9r, F_inc9m, T_ret, c145, c151, c346, c347, c350, ↓s145, ↓s151, ↓s346, ↓s347, ↓s350, g1, g2, lo, TK, lt_run hn, le43, Int.le_refl, Int.lt_irrefl, Option.some.injEq, exists_eq_left', true_and, and_true, if_true, if_false, decide_eq_false_iff_not, decide_eq_true_eq, Nat.reduceAdd, Nat.reduceLeDiff, Nat.reduceLT, Int.reduceAdd, Int.reduceSub, Int.reduceMul, Int.reduceNeg, not_true_eq_false, not_false_eq_true]
      rw [← ef]
      refine ih (_, _) _ ⟨e1.sA rfl, ?_⟩
      rw [ls]
      exact P1.set (by omega)
    by_cases g0 : stp (bx - ax) (bY - ay) = 0
    · have l1 : lnp ax (bx - ax) (stp (bx - ax) (bY - ay)) i = ax := if_pos g0
      have l2 : lnp ay (bY - ay) (stp (bx - ax) (bY - ay)) i = ay := if_pos g0
      rw [l1, l2, g0] at go
      have i00 : i = 0 := by omega
      rw [k32_1]
      simp +decide (maxSteps := 4000000) (disch := omega) only [k32_0, k32_2, k32_3, k32_4, k32_6, k32_7, k32_r, k32_s, F_il4, F_il2, T_sub, F_is6i, F_is6r, F_is6m, F_il5, F_il3, F_is7i, F_is7r, F_is7m, F_il6, F_il7, F_is8i, F_is8r, F_is8m, T_I, F_is9i, F_is9r, F_is9m, T_ft, F_il9, F_il8, T_icgt, J_ifne, T_goto, T_mul, T_add, F_is10i, F_is10r, F_is10m, F_is11i, F_is11r, F_is11m, F_il10, F_il11, J_ifeq, F_al0, F_il1, T_iast, F_inc9i, F_inc9r, F_inc9m, T_ret, c145, c151, c346, c347, c350, ↓s145, ↓s151, ↓s346, ↓s347, ↓s350, g0, show ¬ (0 : Int) < i by omega, TK, lt_run hn, le43, Int.le_refl, Int.lt_irrefl, Option.some.injEq, exists_eq_left', true_and, and_true, if_true, if_false, decide_eq_false_iff_not, decide_eq_true_eq, Nat.reduceAdd, Nat.reduceLeDiff, Nat.reduceLT, Int.reduceAdd, Int.reduceSub, Int.reduceMul, Int.reduceNeg, not_true_eq_false, not_false_eq_true]
      exact go
    · have l1 : lnp ax (bx - ax) (stp (bx - ax) (bY - ay)) i = ax + rd (i * (bx - ax)) (stp (bx - ax) (bY - ay)) := if_neg g0
      have l2 : lnp ay (bY - ay) (stp (bx - ax) (bY - ay)) i = ay + rd (i * (bY - ay)) (stp (bx - ax) (bY - ay)) := if_neg g0
      rw [l1, l2] at go
      rw [k32_1]
      simp +decide (maxSteps := 4000000) (disch := omega) only [k32_0, k32_2, k32_3, k32_4, k32_6, k32_7, k32_r, k32_s, F_il4, F_il2, T_sub, F_is6i, F_is6r, F_is6m, F_il5, F_il3, F_is7i, F_is7r, F_is7m, F_il6, F_il7, F_is8i, F_is8r, F_is8m, T_I, F_is9i, F_is9r, F_is9m, T_ft, F_il9, F_il8, T_icgt, J_ifne, T_goto, T_mul, T_add, F_is10i, F_is10r, F_is10m, F_is11i, F_is11r, F_is11m, F_il10, F_il11, J_ifeq, F_al0, F_il1, T_iast, F_inc9i, F_inc9r, F_inc9m, T_ret, c145, c151, c346, c347, c350, ↓s145, ↓s151, ↓s346, ↓s347, ↓s350, g0, rd_2, show ¬ stp (bx - ax) (bY - ay) < i by omega, TK, lt_run hn, le43, Int.le_refl, Int.lt_irrefl, Option.some.injEq, exists_eq_left', true_and, and_true, if_true, if_false, decide_eq_false_iff_not, decide_eq_true_eq, Nat.reduceAdd, Nat.reduceLeDiff, Nat.reduceLT, Int.reduceAdd, Int.reduceSub, Int.reduceMul, Int.reduceNeg, not_true_eq_false, not_false_eq_true]
      exact go
  · rintro ⟨u1, u2⟩ h1' ⟨e1, P1⟩
    dsimp only
    rw [k32_1]
    simp +decide (maxSteps := 4000000) (disch := omega) only [k32_0, k32_2, k32_3, k32_4, k32_5, k32_6, k32_7, k32_r, k32_s, F_il4, F_il2, T_sub, F_is6i, F_is6r, F_is6m, F_il5, F_il3, F_is7i, F_is7r, F_is7m, F_il6, F_il7, F_is8i, F_is8r, F_is8m, T_I, F_is9i, F_is9r, F_is9m, T_ft, F_il9, F_il8, T_icgt, J_ifne, T_goto, T_mul, T_add, F_is10i, F_is10r, F_is10m, F_is11i, F_is11r, F_is11m, F_il10, F_il11, J_ifeq, F_al0, F_il1, T_iast, F_inc9i, F_inc9r, F_inc9m, T_ret, c145, c151, c346, c347, c350, ↓s145, ↓s151, ↓s346, ↓s347, ↓s350, show stp (bx - ax) (bY - ay) < stp (bx - ax) (bY - ay) + 1 by omega, TK, lt_run hn, le43, Int.le_refl, Int.lt_irrefl, Option.some.injEq, exists_eq_left', true_and, and_true, if_true, if_false, decide_eq_false_iff_not, decide_eq_true_eq, Nat.reduceAdd, Nat.reduceLeDiff, Nat.reduceLT, Int.reduceAdd, Int.reduceSub, Int.reduceMul, Int.reduceNeg, not_true_eq_false, not_false_eq_true]
    exact k h1' P1 e1
/-- the lines of a stroke -/
def inkS (f : Int → Int) (s : Stk) : Nat → Int → Int
  | 0 => f
  | k + 1 => lin (inkS f s k) s.1 (s.2.2.1 k) (s.2.2.2 k) (s.2.2.1 (k + 1)) (s.2.2.2 (k + 1))
def inkD (D : Drw) : Nat → Int → Int
  | 0 => fun _ => 0
  | k + 1 => inkS (inkD D k) (D.2 k) ((D.2 k).2.1 - 1).toNat
/-- the ENDS of strokes -/
def endS (s : Stk) : List (Int × Int) := if s.2.2.1 0 = s.2.2.1 (s.2.1 - 1) ∧ s.2.2.2 0 = s.2.2.2 (s.2.1 - 1) then [] else [(s.2.2.1 0, s.2.2.2 0), (s.2.2.1 (s.2.1 - 1), s.2.2.2 (s.2.1 - 1))]
def endD (D : Drw) : Nat → List (Int × Int)
  | 0 => []
  | k + 1 => endD D k ++ endS (D.2 k)
theorem inkS_s {s : Stk} {k : Int} (h : 0 ≤ k) : inkS f s (k + 1).toNat = lin (inkS f s k.toNat) s.1 (s.2.2.1 k) (s.2.2.2 k) (s.2.2.1 (k + 1)) (s.2.2.2 (k + 1)) := by
  rw [show (k + 1).toNat = k.toNat + 1 by omega]
  show lin (inkS f s k.toNat) s.1 (s.2.2.1 (k.toNat : Int)) (s.2.2.2 (k.toNat : Int)) (s.2.2.1 ((k.toNat : Int) + 1)) (s.2.2.2 ((k.toNat : Int) + 1)) = _
  rw [Int.toNat_of_nonneg h]
theorem inkD_s {D : Drw} {k : Int} (h : 0 ≤ k) : inkD D (k + 1).toNat = inkS (inkD D k.toNat) (D.2 k) ((D.2 k).2.1 - 1).toNat ∧ endD D (k + 1).toNat = endD D k.toNat ++ endS (D.2 k) := by
  rw [show (k + 1).toNat = k.toNat + 1 by omega]
  show inkS (inkD D k.toNat) (D.2 (k.toNat : Int)) ((D.2 (k.toNat : Int)).2.1 - 1).toNat = _ ∧ endD D k.toNat ++ endS (D.2 (k.toNat : Int)) = _
  rw [Int.toNat_of_nonneg h]
  exact ⟨rfl, rfl⟩
theorem ldr_r {v ax ay bx bY m M : Int} (hf : ∀ q, m ≤ f q ∧ f q ≤ M) (hv : m ≤ v ∧ v ≤ M) : ∀ k q, m ≤ ldr f v ax ay bx bY k q ∧ ldr f v ax ay bx bY k q ≤ M := by
  intro k
  induction k with
  | zero => exact hf
  | succ k ih =>
    intro q
    unfold ldr upd1
    split
    · exact hv
    · exact ih q
theorem lin_r {v ax ay bx bY m M : Int} (hf : ∀ q, m ≤ f q ∧ f q ≤ M) (hv : m ≤ v ∧ v ≤ M) : ∀ q, m ≤ lin f v ax ay bx bY q ∧ lin f v ax ay bx bY q ≤ M := ldr_r hf hv _
theorem inkS_r {s : Stk} (hf : ∀ q, 0 ≤ f q ∧ f q ≤ 15) (R : 1 ≤ s.1 ∧ s.1 ≤ 15) : ∀ k q, 0 ≤ inkS f s k q ∧ inkS f s k q ≤ 15 := by
  intro k
  induction k with
  | zero => exact hf
  | succ k ih => exact lin_r ih (by omega)
theorem inkD_r {D : Drw} (R : DRr D) : ∀ k q, 0 ≤ inkD D k q ∧ inkD D k q ≤ 15 := by
  intro k
  induction k with
  | zero => exact fun q => by show (0 : Int) ≤ 0 ∧ (0 : Int) ≤ 15; decide
  | succ k ih => exact inkS_r ih (R.2 k).1 _
theorem endD_l {D : Drw} (R : DRr D) : ∀ k : Nat, (endD D k).length ≤ 2 * k ∧ ∀ e ∈ endD D k, onP e.1 e.2 := by
  intro k
  induction k with
  | zero => exact ⟨Nat.le_refl _, fun e q => by cases q⟩
  | succ k ih =>
    have h1 : (endS (D.2 k)).length ≤ 2 ∧ ∀ e ∈ endS (D.2 k), onP e.1 e.2 := by
      unfold endS
      split
      · exact ⟨Nat.zero_le _, fun e q => by cases q⟩
      · refine ⟨Nat.le_refl _, fun e q => ?_⟩
        rcases List.mem_cons.mp q with q | q
        · rw [q]
          exact (R.2 k).2.2 0
        · rw [List.mem_singleton.mp q]
          exact (R.2 k).2.2 _
    unfold endD
    refine ⟨?_, fun e q => ?_⟩
    · rw [List.length_append]
      omega
    · rcases List.mem_append.mp q with q | q
      · exact ih.2 e q
      · exact h1.2 e q
end IK
