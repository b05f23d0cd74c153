/-! bone, swing -/
theorem dynB : ∀ i, i < 10 → dyn (635 + 6 * i) 0 = true := by decide +kernel
def PoB (h : AHi) (hr : AHr) (n : Nat) : AHi → AHr → Nat → Prop := fun h' hr' n' => (Cp12 h' hr' ∧ Kp 12 12 h h') ∧ (FH hr' ∧ ∀ a q, ¬ (635 ≤ a ∧ a < 695 ∧ q = 0) → hr' a q = hr a q) ∧ n' = n
section BN
variable {E : AEn} {h h' : AHi} {hr : AHr} {n : Nat} {Q : ARs → Prop} {N : Int} {b : Int → Bn}
theorem w1 (F : FH hr) (hn : 775 ≤ n) {i : Int} {p : Nat} {ln lo hi : Int} (i0 : 0 ≤ i) (i1 : i < 10) (hl : 0 ≤ ln ∧ ln ≤ 40) (hp : a_kd p = 0 ∧ p < n)
    (k : ∀ h', h' (635 + 6 * i.toNat) 1 = J lo → h' (635 + 6 * i.toNat) 2 = J hi → (∀ d, 0 ≤ d → d < 32 → gA h' (635 + 6 * i.toNat + 4) d = J (rd (ln * sn (d + 8)) 1024) ∧ gA h' (635 + 6 * i.toNat + 5) d = J (rd (ln * sn d) 1024)) → Ef (fun a k => (a = 635 + 6 * i.toNat ∧ (k = 1 ∨ k = 2)) ∨ a = 635 + 6 * i.toNat + 4 ∨ a = 635 + 6 * i.toNat + 5) h h' → Q (none, h', hR hr (635 + 6 * i.toNat) 0 (some p), n)) : Sp E 1 [.ref (635 + 6 * i.toNat), .ref p, .int (J ln), .int (J lo), .int (J hi)] h hr n Q := by
  have F' : FH (hR hr (635 + 6 * i.toNat) 0 (some p)) := F.set (dynB i.toNat (by omega))
  have B := bid_B (p := i) (by omega) (by omega)
  rw [bid_p i0] at B
  have x2 := B.x E F'
  have x3 := B.r
  generalize ho : 635 + 6 * i.toNat = o at *
  have lt0 : o < n := by omega
  have lt4 : o + 4 < n := by omega
  have lt5 : o + 5 < n := by omega
  simp +decide (maxSteps := 4000000) (disch := omega) only [k1_0, k1_2, k1_r, k1_s, F_al0, F_an0, F_al1, F_an1, T_putR, F_il3, T_putI, T_putZ, F_il4, T_I, F_is5i, F_is5r, F_is5m, T_ft, F_il5, T_icge, T_getR, F_il2, T_add, T_mul, T_i2l, T_L, T_iast, F_inc5i, F_inc5r, F_inc5m, T_goto, T_ret, c146, c169, ↓s146, ↓s169, x2, x3, lt0, ↓reduceIte, TK, lt_run hn, le43, Int.le_refl, Int.lt_irrefl, Option.some.injEq, exists_eq_left', true_and, and_true, if_true, if_false, decide_eq_false_iff_not, decide_eq_true_eq, Nat.reduceAdd, Nat.reduceLeDiff, Nat.reduceLT, Int.reduceAdd, Int.reduceSub, Int.reduceMul, Int.reduceNeg, not_true_eq_false, not_false_eq_true]
  generalize hR hr o 0 (some p) = hr' at *
  refine T_for (σ := Unit) (fun d _ => [.ref o, .ref p, .int (J ln), .int (J lo), .int (J hi), .int (J d)]) (fun d _ h' => Ef (fun a k => (a = o ∧ (k = 1 ∨ k = 2)) ∨ a = o + 4 ∨ a = o + 5) h h' ∧ (h' o 1 = J lo ∧ h' o 2 = J hi) ∧ ∀ q, 0 ≤ q → q < d → gA h' (o + 4) q = J (rd (ln * sn (q + 8)) 1024) ∧ gA h' (o + 5) q = J (rd (ln * sn q) 1024)) 0 32 ?_ ?_ 0 () _ (by omega) (by omega) ⟨Ef.hI (Ef.hI Ef.refl (Or.inl ⟨rfl, Or.inl rfl⟩)) (Or.inl ⟨rfl, Or.inr rfl⟩), ⟨by rw [hI_k (by decide), hI_s], hI_s⟩, fun q _ _ => by omega⟩
  · rintro d _ h1 d0 d1 ⟨e1, ⟨c1, c2⟩, c3⟩ ih
    have t1 := sn_r (d + 8)
    have t2 := sn_r d
    have m1 := mulb (a := ln) (b := sn (d + 8)) (A := 40) (B := 1024) (by omega) (by omega)
    have m2 := mulb (a := ln) (b := sn d) (A := 40) (B := 1024) (by omega) (by omega)
    rw [k1_1]
    simp +decide (maxSteps := 4000000) (disch := omega) only [k1_0, k1_2, k1_r, k1_s, F_al0, F_an0, F_al1, F_an1, T_putR, F_il3, T_putI, T_putZ, F_il4, T_I, F_is5i, F_is5r, F_is5m, T_ft, F_il5, T_icge, T_getR, F_il2, T_add, T_mul, T_i2l, T_L, T_iast, F_inc5i, F_inc5r, F_inc5m, T_goto, T_ret, c146, c169, ↓s146, x2, x3, lt0, lt4, lt5, ↓s169 hn, J_l, show ¬ 32 ≤ d by omega, ↓reduceIte, TK, lt_run hn, le43, Int.le_refl, Int.lt_irrefl, Option.some.injEq, exists_eq_left', true_and, and_true, if_true, if_false, decide_eq_false_iff_not, decide_eq_true_eq, Nat.reduceAdd, Nat.reduceLeDiff, Nat.reduceLT, Int.reduceAdd, Int.reduceSub, Int.reduceMul, Int.reduceNeg, not_true_eq_false, not_false_eq_true]
    refine ih () _ ⟨(e1.sA (by omega)).sA (by omega), ⟨?_, ?_⟩, fun q q0 q1 => ?_⟩
    · rw [sA_o (by omega), sA_o (by omega)]
      exact c1
    · rw [sA_o (by omega), sA_o (by omega)]
      exact c2
    · rw [gs_o (by omega)]
      by_cases e : q = d
      · rw [e, gs_s, gs_s]
        exact ⟨rfl, rfl⟩
      · rw [gs_k d0 q0 e, gs_k d0 q0 e, gs_o (by omega)]
        exact c3 q q0 (by omega)
  · rintro _ h1 ⟨e1, ⟨c1, c2⟩, c3⟩
    rw [k1_1]
    simp +decide (maxSteps := 4000000) (disch := omega) only [k1_0, k1_2, k1_r, k1_s, F_al0, F_an0, F_al1, F_an1, T_putR, F_il3, T_putI, T_putZ, F_il4, T_I, F_is5i, F_is5r, F_is5m, T_ft, F_il5, T_icge, T_getR, F_il2, T_add, T_mul, T_i2l, T_L, T_iast, F_inc5i, F_inc5r, F_inc5m, T_goto, T_ret, c146, c169, ↓s146, ↓s169, x2, ↓reduceIte, TK, lt_run hn, le43, Int.le_refl, Int.lt_irrefl, Option.some.injEq, exists_eq_left', true_and, and_true, if_true, if_false, decide_eq_false_iff_not, decide_eq_true_eq, Nat.reduceAdd, Nat.reduceLeDiff, Nat.reduceLT, Int.reduceAdd, Int.reduceSub, Int.reduceMul, Int.reduceNeg, not_true_eq_false, not_false_eq_true]
    exact k h1 c1 c2 c3 e1
/-- one bone more -/
theorem Bw.new (C : Bw N b h hr) {p ln lo hi : Int} (hN : N < 10) (hp : (-1 ≤ p ∧ p < N) ∧ (0 < N → 0 ≤ p)) (hl : 0 ≤ ln ∧ ln ≤ 40) (hlo : 0 ≤ lo ∧ lo ≤ hi ∧ hi ≤ 31) {h' : AHi} {hr' : AHr} (e : Ef (fun a k => (635 + 6 * N.toNat ≤ a ∧ a ≤ 635 + 6 * N.toNat + 5 ∧ ¬ (a = 635 + 6 * N.toNat + 1)) ∨ (742 ≤ a ∧ a ≤ 746 ∧ k = N.toNat) ∨ (a = 43 ∧ k = 10) ∨ (a = 704 ∧ k = 50)) h h') (ho : ∀ i, 0 ≤ i → i < N → hr' (635 + 6 * i.toNat) 0 = hr (635 + 6 * i.toNat) 0) (hb : hr' (635 + 6 * N.toNat) 0 = some (bid p)) (n1 : h' 43 10 = J (N + 1)) (n2 : h' 704 50 = J (N + 1)) (c1 : h' (635 + 6 * N.toNat) 1 = J lo) (c2 : h' (635 + 6 * N.toNat) 2 = J hi) (c3 : ∀ d, 0 ≤ d → d < 32 → gA h' (635 + 6 * N.toNat + 4) d = J (rd (ln * sn (d + 8)) 1024) ∧ gA h' (635 + 6 * N.toNat + 5) d = J (rd (ln * sn d) 1024)) (m : gA h' 742 N = J p ∧ gA h' 743 N = J ln ∧ gA h' 744 N = J lo ∧ gA h' 745 N = J hi ∧ gA h' 746 N = J 0) : Bw (N + 1) (fun x => if x = N then (p, ln, lo, hi, Kn0, Kn0) else b x) h' hr' := by
  obtain ⟨a1, a2, ⟨a3, a4⟩, a5, a6, a7⟩ := C
  refine ⟨by omega, fun i i0 i1 => ?_, ⟨n1, n2⟩, fun i i0 i1 => ?_, fun i i0 i1 => ?_, a7.ef e (fun x k h1 h2 q => by omega)⟩
  · dsimp only
    by_cases g : i = N
    · rw [if_pos g, g]
      refine ⟨hp, hl, hlo, ⟨⟨show (0 : Int) ≤ 0 by decide, show (0 : Int) ≤ 6 by decide⟩, fun j j0 j1 => ?_, fun j q j0 j1 j2 => ?_⟩, rfl, fun j j0 j1 => ?_, fun j j0 j1 => ?_, fun j q j0 j1 j2 => ?_⟩
      · have : j < 0 := j1
        omega
      · have : q < 0 := j2
        omega
      · have : j < 0 := j1
        omega
      · have : j < 0 := j1
        omega
      · have : q < 0 := j2
        omega
    · rw [if_neg g]
      exact a2 i i0 (by omega)
  · dsimp only
    by_cases g : i = N
    · rw [if_pos g, g]
      refine ⟨⟨hb, ⟨c1, c2⟩, ⟨?_, fun j j0 j1 => ?_⟩, c3⟩, m, fun j j0 j1 => ?_⟩
      · rw [e _ _ (by omega)]
        exact a6 N (by omega) hN
      · have : j < 0 := j1
        omega
      · have : j < 0 := j1
        omega
    · rw [if_neg g]
      obtain ⟨d1, d2, d3⟩ := a5 i i0 (by omega)
      have d4 := d1.ef e (fun x k h1 h2 q => by omega)
      refine ⟨⟨?_, d4.2⟩, ?_, d3.ef e (fun j j0 j1 => ⟨by omega, by omega⟩)⟩
      · rw [ho i i0 (by omega)]
        exact d4.1
      · rw [e.g (by omega), e.g (by omega), e.g (by omega), e.g (by omega), e.g (by omega)]
        exact d2
  · rw [e _ _ (by omega)]
    exact a6 i (by omega) i1
theorem Pbone (F : FH hr) (hn : 775 ≤ n) (C : Cp12 h hr) (x y z w : Int32) : Pr2 E 167 283 [.int x, .int y, .int z, .int w] h hr n (PoB h hr n) := by
  have C0 := C
  obtain ⟨N, b, C⟩ := C
  obtain ⟨p, hp, hp', rfl⟩ := J_of x
  obtain ⟨ln, hl, hl', rfl⟩ := J_of y
  obtain ⟨lo, ho, ho', rfl⟩ := J_of z
  obtain ⟨hi, hh, hh', rfl⟩ := J_of w
  have hN := C.1
  have y1 := C.2.2.1.1
  have c2 := C.2.2.1.2
  have nop : PoB h hr n h hr n := ⟨⟨C0, Kp.refl⟩, ⟨F, fun _ _ _ => rfl⟩, rfl⟩
  unfold Pr2
  by_cases gp : (N = 0 ∧ p = -1) ∨ (N ≠ 0 ∧ 0 ≤ p ∧ p ≤ N - 1)
  case neg =>
    by_cases z0 : N = 0
    · rw [z0] at y1 c2
      simp +decide (maxSteps := 4000000) (disch := omega) only [k167_0, k167_1, k167_2, k167_3, k167_4, k167_5, k167_6, k167_7, k167_8, k167_r, k167_s, F_al0, T_getI, J_ifne, F_il1, T_I, J_icne, T_goto, T_ft, F_is5i, F_is5r, F_is5m, F_il5, J_ifeq, F_il2, F_il4, F_il3, T_ret, T_iclt, T_getR, X_aald, T_dupI, T_dupR, T_add, T_putI, T_putZ, T_sub, c1, c138, c168, ↓s138, ↓s168, y1, show ¬ p = -1 by omega, ↓reduceIte, TK, lt_run hn, le43, Int.le_refl, Int.lt_irrefl, Option.some.injEq, exists_eq_left', true_and, and_true, if_true, if_false, decide_eq_false_iff_not, decide_eq_true_eq, Nat.reduceAdd, Nat.reduceLeDiff, Nat.reduceLT, Int.reduceAdd, Int.reduceSub, Int.reduceMul, Int.reduceNeg, not_true_eq_false, not_false_eq_true]
      refine ⟨_, rfl, ?_⟩
      simp +decide (maxSteps := 4000000) (disch := omega) only [k283_0, k283_1, k283_2, k283_3, k283_4, k283_5, k283_6, k283_r, k283_s, F_al0, T_getI, J_ifne, F_il1, T_I, J_icne, T_goto, T_sub, T_ft, F_is5i, F_is5r, F_is5m, F_il5, J_ifeq, F_il2, F_il3, F_il4, T_ret, T_getR, T_iast, T_dupI, T_dupR, T_add, T_putI, T_putZ, c219, ↓s219, c2, show ¬ p = -1 by omega, ↓reduceIte, TK, lt_run hn, le43, Int.le_refl, Int.lt_irrefl, Option.some.injEq, exists_eq_left', true_and, and_true, if_true, if_false, decide_eq_false_iff_not, decide_eq_true_eq, Nat.reduceAdd, Nat.reduceLeDiff, Nat.reduceLT, Int.reduceAdd, Int.reduceSub, Int.reduceMul, Int.reduceNeg, not_true_eq_false, not_false_eq_true]
      exact nop
    · simp +decide (maxSteps := 4000000) (disch := omega) only [k167_0, k167_1, k167_2, k167_3, k167_4, k167_5, k167_6, k167_7, k167_8, k167_r, k167_s, F_al0, T_getI, J_ifne, F_il1, T_I, J_icne, T_goto, T_ft, F_is5i, F_is5r, F_is5m, F_il5, J_ifeq, F_il2, F_il4, F_il3, T_ret, T_iclt, T_getR, X_aald, T_dupI, T_dupR, T_add, T_putI, T_putZ, T_sub, c1, c138, c168, ↓s138, y1, ↓s168 hn C.2.2.1.1 hN, z0, show ¬ (0 ≤ p ∧ p ≤ N - 1) by omega, ↓reduceIte, TK, lt_run hn, le43, Int.le_refl, Int.lt_irrefl, Option.some.injEq, exists_eq_left', true_and, and_true, if_true, if_false, decide_eq_false_iff_not, decide_eq_true_eq, Nat.reduceAdd, Nat.reduceLeDiff, Nat.reduceLT, Int.reduceAdd, Int.reduceSub, Int.reduceMul, Int.reduceNeg, not_true_eq_false, not_false_eq_true]
      refine ⟨_, rfl, ?_⟩
      simp +decide (maxSteps := 4000000) (disch := omega) only [k283_0, k283_1, k283_2, k283_3, k283_4, k283_5, k283_6, k283_r, k283_s, F_al0, T_getI, J_ifne, F_il1, T_I, J_icne, T_goto, T_sub, T_ft, F_is5i, F_is5r, F_is5m, F_il5, J_ifeq, F_il2, F_il3, F_il4, T_ret, T_getR, T_iast, T_dupI, T_dupR, T_add, T_putI, T_putZ, c219, ↓s219, c2, z0, show ¬ (0 ≤ p ∧ p ≤ N - 1) by omega, ↓reduceIte, TK, lt_run hn, le43, Int.le_refl, Int.lt_irrefl, Option.some.injEq, exists_eq_left', true_and, and_true, if_true, if_false, decide_eq_false_iff_not, decide_eq_true_eq, Nat.reduceAdd, Nat.reduceLeDiff, Nat.reduceLT, Int.reduceAdd, Int.reduceSub, Int.reduceMul, Int.reduceNeg, not_true_eq_false, not_false_eq_true]
      exact nop
  have cst : ∀ Q2 : ARs → Prop, Tm E 167 (a_bl 167 3) [.ref 43, .int (J p), .int (J ln), .int (J lo), .int (J hi), a_mk] [.int (J 1)] h hr n Q2 → Sp E 167 [.ref 43, .int (J p), .int (J ln), .int (J lo), .int (J hi)] h hr n Q2 := fun Q2 k => by
    rcases gp with ⟨q1, q2⟩ | ⟨q1, q2⟩
    · rw [q1] at y1
      rw [q2] at k ⊢
      simp +decide (maxSteps := 4000000) (disch := omega) only [k167_0, k167_1, k167_2, k167_4, k167_5, k167_6, k167_7, k167_8, k167_r, k167_s, F_al0, T_getI, J_ifne, F_il1, T_I, J_icne, T_goto, T_ft, F_is5i, F_is5r, F_is5m, F_il5, J_ifeq, F_il2, F_il4, F_il3, T_ret, T_iclt, T_getR, X_aald, T_dupI, T_dupR, T_add, T_putI, T_putZ, T_sub, c1, c138, c168, ↓s138, ↓s168, y1, ↓reduceIte, TK, lt_run hn, le43, Int.le_refl, Int.lt_irrefl, Option.some.injEq, exists_eq_left', true_and, and_true, if_true, if_false, decide_eq_false_iff_not, decide_eq_true_eq, Nat.reduceAdd, Nat.reduceLeDiff, Nat.reduceLT, Int.reduceAdd, Int.reduceSub, Int.reduceMul, Int.reduceNeg, not_true_eq_false, not_false_eq_true]
      exact k
    · simp +decide (maxSteps := 4000000) (disch := omega) only [k167_0, k167_1, k167_2, k167_4, k167_5, k167_6, k167_7, k167_8, k167_r, k167_s, F_al0, T_getI, J_ifne, F_il1, T_I, J_icne, T_goto, T_ft, F_is5i, F_is5r, F_is5m, F_il5, J_ifeq, F_il2, F_il4, F_il3, T_ret, T_iclt, T_getR, X_aald, T_dupI, T_dupR, T_add, T_putI, T_putZ, T_sub, c1, c138, c168, ↓s138, y1, ↓s168 hn C.2.2.1.1 hN, q1, q2, Bz_t, ↓reduceIte, TK, lt_run hn, le43, Int.le_refl, Int.lt_irrefl, Option.some.injEq, exists_eq_left', true_and, and_true, if_true, if_false, decide_eq_false_iff_not, decide_eq_true_eq, Nat.reduceAdd, Nat.reduceLeDiff, Nat.reduceLT, Int.reduceAdd, Int.reduceSub, Int.reduceMul, Int.reduceNeg, not_true_eq_false, not_false_eq_true]
      exact k
  have mst : ∀ (h1 : AHi) (hr1 : AHr) (Q2 : ARs → Prop), h1 704 50 = J N → Tm E 283 (a_bl 283 3) [.ref 704, .int (J p), .int (J ln), .int (J lo), .int (J hi), a_mk] [.int (J 1)] h1 hr1 n Q2 → Sp E 283 [.ref 704, .int (J p), .int (J ln), .int (J lo), .int (J hi)] h1 hr1 n Q2 := fun h1 hr1 Q2 c k => by
    rcases gp with ⟨q1, q2⟩ | ⟨q1, q2⟩
    · rw [q1] at c
      rw [q2] at k ⊢
      simp +decide (maxSteps := 4000000) (disch := omega) only [k283_0, k283_1, k283_2, k283_4, k283_5, k283_6, k283_r, k283_s, F_al0, T_getI, J_ifne, F_il1, T_I, J_icne, T_goto, T_sub, T_ft, F_is5i, F_is5r, F_is5m, F_il5, J_ifeq, F_il2, F_il3, F_il4, T_ret, T_getR, T_iast, T_dupI, T_dupR, T_add, T_putI, T_putZ, c219, ↓s219, c, ↓reduceIte, TK, lt_run hn, le43, Int.le_refl, Int.lt_irrefl, Option.some.injEq, exists_eq_left', true_and, and_true, if_true, if_false, decide_eq_false_iff_not, decide_eq_true_eq, Nat.reduceAdd, Nat.reduceLeDiff, Nat.reduceLT, Int.reduceAdd, Int.reduceSub, Int.reduceMul, Int.reduceNeg, not_true_eq_false, not_false_eq_true]
      exact k
    · simp +decide (maxSteps := 4000000) (disch := omega) only [k283_0, k283_1, k283_2, k283_4, k283_5, k283_6, k283_r, k283_s, F_al0, T_getI, J_ifne, F_il1, T_I, J_icne, T_goto, T_sub, T_ft, F_is5i, F_is5r, F_is5m, F_il5, J_ifeq, F_il2, F_il3, F_il4, T_ret, T_getR, T_iast, T_dupI, T_dupR, T_add, T_putI, T_putZ, c219, ↓s219, c, q1, q2, Bz_t, ↓reduceIte, TK, lt_run hn, le43, Int.le_refl, Int.lt_irrefl, Option.some.injEq, exists_eq_left', true_and, and_true, if_true, if_false, decide_eq_false_iff_not, decide_eq_true_eq, Nat.reduceAdd, Nat.reduceLeDiff, Nat.reduceLT, Int.reduceAdd, Int.reduceSub, Int.reduceMul, Int.reduceNeg, not_true_eq_false, not_false_eq_true]
      exact k
  refine cst _ ?_
  rw [k167_3]
  by_cases g2 : 0 ≤ ln ∧ ln ≤ 40
  case neg =>
    simp +decide (maxSteps := 4000000) (disch := omega) only [k167_0, k167_1, k167_2, k167_3, k167_4, k167_5, k167_6, k167_7, k167_8, k167_r, k167_s, F_al0, T_getI, J_ifne, F_il1, T_I, J_icne, T_goto, T_ft, F_is5i, F_is5r, F_is5m, F_il5, J_ifeq, F_il2, F_il4, F_il3, T_ret, T_iclt, T_getR, X_aald, T_dupI, T_dupR, T_add, T_putI, T_putZ, T_sub, c1, c138, c168, ↓s138, ↓s168, g2, ↓reduceIte, TK, lt_run hn, le43, Int.le_refl, Int.lt_irrefl, Option.some.injEq, exists_eq_left', true_and, and_true, if_true, if_false, decide_eq_false_iff_not, decide_eq_true_eq, Nat.reduceAdd, Nat.reduceLeDiff, Nat.reduceLT, Int.reduceAdd, Int.reduceSub, Int.reduceMul, Int.reduceNeg, not_true_eq_false, not_false_eq_true]
    refine ⟨_, rfl, mst _ _ _ c2 ?_⟩
    rw [k283_3]
    simp +decide (maxSteps := 4000000) (disch := omega) only [k283_0, k283_1, k283_2, k283_3, k283_4, k283_5, k283_6, k283_r, k283_s, F_al0, T_getI, J_ifne, F_il1, T_I, J_icne, T_goto, T_sub, T_ft, F_is5i, F_is5r, F_is5m, F_il5, J_ifeq, F_il2, F_il3, F_il4, T_ret, T_getR, T_iast, T_dupI, T_dupR, T_add, T_putI, T_putZ, c219, ↓s219, g2, ↓reduceIte, TK, lt_run hn, le43, Int.le_refl, Int.lt_irrefl, Option.some.injEq, exists_eq_left', true_and, and_true, if_true, if_false, decide_eq_false_iff_not, decide_eq_true_eq, Nat.reduceAdd, Nat.reduceLeDiff, Nat.reduceLT, Int.reduceAdd, Int.reduceSub, Int.reduceMul, Int.reduceNeg, not_true_eq_false, not_false_eq_true]
    exact nop
  by_cases g3 : 0 ≤ lo ∧ lo ≤ hi ∧ hi ≤ 31
  case neg =>
    have mf : Tm E 283 (a_bl 283 3) [.ref 704, .int (J p), .int (J ln), .int (J lo), .int (J hi), a_mk] [.int (J 1)] h hr n (fun q => q.1 = some (.int (J (-1))) ∧ PoB h hr n q.2.1 q.2.2.1 q.2.2.2) := by
      rw [k283_3]
      by_cases q3 : 0 ≤ lo ∧ lo ≤ 31
      · simp +decide (maxSteps := 4000000) (disch := omega) only [k283_0, k283_1, k283_2, k283_3, k283_4, k283_5, k283_6, k283_r, k283_s, F_al0, T_getI, J_ifne, F_il1, T_I, J_icne, T_goto, T_sub, T_ft, F_is5i, F_is5r, F_is5m, F_il5, J_ifeq, F_il2, F_il3, F_il4, T_ret, T_getR, T_iast, T_dupI, T_dupR, T_add, T_putI, T_putZ, c219, ↓s219, g2, q3, show ¬ (lo ≤ hi ∧ hi ≤ 31) by omega, ↓reduceIte, TK, lt_run hn, le43, Int.le_refl, Int.lt_irrefl, Option.some.injEq, exists_eq_left', true_and, and_true, if_true, if_false, decide_eq_false_iff_not, decide_eq_true_eq, Nat.reduceAdd, Nat.reduceLeDiff, Nat.reduceLT, Int.reduceAdd, Int.reduceSub, Int.reduceMul, Int.reduceNeg, not_true_eq_false, not_false_eq_true]
        exact nop
      · simp +decide (maxSteps := 4000000) (disch := omega) only [k283_0, k283_1, k283_2, k283_3, k283_4, k283_5, k283_6, k283_r, k283_s, F_al0, T_getI, J_ifne, F_il1, T_I, J_icne, T_goto, T_sub, T_ft, F_is5i, F_is5r, F_is5m, F_il5, J_ifeq, F_il2, F_il3, F_il4, T_ret, T_getR, T_iast, T_dupI, T_dupR, T_add, T_putI, T_putZ, c219, ↓s219, g2, q3, ↓reduceIte, TK, lt_run hn, le43, Int.le_refl, Int.lt_irrefl, Option.some.injEq, exists_eq_left', true_and, and_true, if_true, if_false, decide_eq_false_iff_not, decide_eq_true_eq, Nat.reduceAdd, Nat.reduceLeDiff, Nat.reduceLT, Int.reduceAdd, Int.reduceSub, Int.reduceMul, Int.reduceNeg, not_true_eq_false, not_false_eq_true]
        exact nop
    by_cases q1 : 0 ≤ hi ∧ hi ≤ 31
    · simp +decide (maxSteps := 4000000) (disch := omega) only [k167_0, k167_1, k167_2, k167_3, k167_4, k167_5, k167_6, k167_7, k167_8, k167_r, k167_s, F_al0, T_getI, J_ifne, F_il1, T_I, J_icne, T_goto, T_ft, F_is5i, F_is5r, F_is5m, F_il5, J_ifeq, F_il2, F_il4, F_il3, T_ret, T_iclt, T_getR, X_aald, T_dupI, T_dupR, T_add, T_putI, T_putZ, T_sub, c1, c138, c168, ↓s138, ↓s168, g2, q1, show ¬ (0 ≤ lo ∧ lo ≤ hi) by omega, ↓reduceIte, TK, lt_run hn, le43, Int.le_refl, Int.lt_irrefl, Option.some.injEq, exists_eq_left', true_and, and_true, if_true, if_false, decide_eq_false_iff_not, decide_eq_true_eq, Nat.reduceAdd, Nat.reduceLeDiff, Nat.reduceLT, Int.reduceAdd, Int.reduceSub, Int.reduceMul, Int.reduceNeg, not_true_eq_false, not_false_eq_true]
      exact ⟨_, rfl, mst _ _ _ c2 mf⟩
    · simp +decide (maxSteps := 4000000) (disch := omega) only [k167_0, k167_1, k167_2, k167_3, k167_4, k167_5, k167_6, k167_7, k167_8, k167_r, k167_s, F_al0, T_getI, J_ifne, F_il1, T_I, J_icne, T_goto, T_ft, F_is5i, F_is5r, F_is5m, F_il5, J_ifeq, F_il2, F_il4, F_il3, T_ret, T_iclt, T_getR, X_aald, T_dupI, T_dupR, T_add, T_putI, T_putZ, T_sub, c1, c138, c168, ↓s138, ↓s168, g2, q1, ↓reduceIte, TK, lt_run hn, le43, Int.le_refl, Int.lt_irrefl, Option.some.injEq, exists_eq_left', true_and, and_true, if_true, if_false, decide_eq_false_iff_not, decide_eq_true_eq, Nat.reduceAdd, Nat.reduceLeDiff, Nat.reduceLT, Int.reduceAdd, Int.reduceSub, Int.reduceMul, Int.reduceNeg, not_true_eq_false, not_false_eq_true]
      exact ⟨_, rfl, mst _ _ _ c2 mf⟩
  have k1 : 0 ≤ hi ∧ hi ≤ 31 := by omega
  have k2 : 0 ≤ lo ∧ lo ≤ hi := by omega
  have k3 : 0 ≤ lo ∧ lo ≤ 31 := by omega
  have k4 : lo ≤ hi ∧ hi ≤ 31 := by omega
  by_cases g4 : N < 10
  case neg =>
    have e10 : N = 10 := by omega
    have y1' := y1
    have c2' := c2
    rw [e10] at y1' c2'
    simp +decide (maxSteps := 4000000) (disch := omega) only [k167_0, k167_1, k167_2, k167_3, k167_4, k167_5, k167_6, k167_7, k167_8, k167_r, k167_s, F_al0, T_getI, J_ifne, F_il1, T_I, J_icne, T_goto, T_ft, F_is5i, F_is5r, F_is5m, F_il5, J_ifeq, F_il2, F_il4, F_il3, T_ret, T_iclt, T_getR, X_aald, T_dupI, T_dupR, T_add, T_putI, T_putZ, T_sub, c1, c138, c168, ↓s138, ↓s168, y1', g2, k1, k2, ↓reduceIte, TK, lt_run hn, le43, Int.le_refl, Int.lt_irrefl, Option.some.injEq, exists_eq_left', true_and, and_true, if_true, if_false, decide_eq_false_iff_not, decide_eq_true_eq, Nat.reduceAdd, Nat.reduceLeDiff, Nat.reduceLT, Int.reduceAdd, Int.reduceSub, Int.reduceMul, Int.reduceNeg, not_true_eq_false, not_false_eq_true]
    refine ⟨_, rfl, mst _ _ _ c2 ?_⟩
    rw [k283_3]
    simp +decide (maxSteps := 4000000) (disch := omega) only [k283_0, k283_1, k283_2, k283_3, k283_4, k283_5, k283_6, k283_r, k283_s, F_al0, T_getI, J_ifne, F_il1, T_I, J_icne, T_goto, T_sub, T_ft, F_is5i, F_is5r, F_is5m, F_il5, J_ifeq, F_il2, F_il3, F_il4, T_ret, T_getR, T_iast, T_dupI, T_dupR, T_add, T_putI, T_putZ, c219, ↓s219, c2', g2, k3, k4, ↓reduceIte, TK, lt_run hn, le43, Int.le_refl, Int.lt_irrefl, Option.some.injEq, exists_eq_left', true_and, and_true, if_true, if_false, decide_eq_false_iff_not, decide_eq_true_eq, Nat.reduceAdd, Nat.reduceLeDiff, Nat.reduceLT, Int.reduceAdd, Int.reduceSub, Int.reduceMul, Int.reduceNeg, not_true_eq_false, not_false_eq_true]
    exact nop
  have pr : (-1 ≤ p ∧ p < N) ∧ (0 < N → 0 ≤ p) ∨ (N = 0 ∧ p = -1) := by omega
  have pr1 : -1 ≤ p ∧ p < 10 := by omega
  have Bp := bid_B pr1.1 pr1.2
  have xp := Bp.x E F
  have xp2 := Bp.r
  have x98 := X98 F hN.1 g4
  have BN := bid_B (p := N) (by omega) g4
  rw [bid_p hN.1] at BN
  have xN := BN.x E F
  have xN2 := BN.r
  have F' : FH (hR hr (635 + 6 * N.toNat) 0 (some (bid p))) := F.set (dynB N.toNat (by omega))
  have call : ∀ Q2 : ARs → Prop, Sp E 1 [.ref (635 + 6 * N.toNat), .ref (bid p), .int (J ln), .int (J lo), .int (J hi)] h hr n (fun r => Tm E 167 [o_al 0, o_dup, o_getI 10 10, o_I (J 1), o_bin 0, o_putI 10 10, o_al 0, o_getI 10 10, o_I (J 1), o_bin 1, o_ret 1] [.ref 43, .int (J p), .int (J ln), .int (J lo), .int (J hi), .int (J 1)] (r.1.toList ++ []) r.2.1 r.2.2.1 r.2.2.2 Q2) → Tm E 167 (a_bl 167 6) [.ref 43, .int (J p), .int (J ln), .int (J lo), .int (J hi), .int (J 1)] [] h hr n Q2 := fun Q2 k => by
    rw [k167_6]
    rcases gp with ⟨q1, q2⟩ | ⟨q1, q2⟩
    · rw [q1] at y1 x98 xN k
      rw [q2] at k xp ⊢
      simp +decide (maxSteps := 4000000) (disch := omega) only [k167_0, k167_1, k167_2, k167_3, k167_4, k167_5, k167_6, k167_7, k167_8, k167_r, k167_s, F_al0, T_getI, J_ifne, F_il1, T_I, J_icne, T_goto, T_ft, F_is5i, F_is5r, F_is5m, F_il5, J_ifeq, F_il2, F_il4, F_il3, T_ret, T_iclt, T_getR, X_aald, T_dupI, T_dupR, T_add, T_putI, T_putZ, T_sub, c1, c138, c168, ↓s138, ↓s168, FX F, y1, x98, xN, xp, kd_98, ln_98, ↓reduceIte, TK, lt_run hn, le43, Int.le_refl, Int.lt_irrefl, Option.some.injEq, exists_eq_left', true_and, and_true, if_true, if_false, decide_eq_false_iff_not, decide_eq_true_eq, Nat.reduceAdd, Nat.reduceLeDiff, Nat.reduceLT, Int.reduceAdd, Int.reduceSub, Int.reduceMul, Int.reduceNeg, not_true_eq_false, not_false_eq_true]
      simp +decide (maxSteps := 4000000) (disch := omega) only [k167_0, k167_1, k167_2, k167_3, k167_4, k167_5, k167_6, k167_7, k167_8, k167_r, k167_s, F_al0, T_getI, J_ifne, F_il1, T_I, J_icne, T_goto, T_ft, F_is5i, F_is5r, F_is5m, F_il5, J_ifeq, F_il2, F_il4, F_il3, T_ret, T_iclt, T_getR, X_aald, T_dupI, T_dupR, T_add, T_putI, T_putZ, T_sub, c1, c138, c168, ↓s138, ↓s168, FX F, y1, x98, xN, xp, kd_98, ln_98, ↓reduceIte, TK, lt_run hn, le43, Int.le_refl, Int.lt_irrefl, Option.some.injEq, exists_eq_left', true_and, and_true, if_true, if_false, decide_eq_false_iff_not, decide_eq_true_eq, Nat.reduceAdd, Nat.reduceLeDiff, Nat.reduceLT, Int.reduceAdd, Int.reduceSub, Int.reduceMul, Int.reduceNeg, not_true_eq_false, not_false_eq_true] at k
      exact k
    · have x98p := X98 F q2.1 (show p < 10 by omega)
      rw [bid_p q2.1] at k xp
      simp +decide (maxSteps := 4000000) (disch := omega) only [k167_0, k167_1, k167_2, k167_3, k167_4, k167_5, k167_6, k167_7, k167_8, k167_r, k167_s, F_al0, T_getI, J_ifne, F_il1, T_I, J_icne, T_goto, T_ft, F_is5i, F_is5r, F_is5m, F_il5, J_ifeq, F_il2, F_il4, F_il3, T_ret, T_iclt, T_getR, X_aald, T_dupI, T_dupR, T_add, T_putI, T_putZ, T_sub, c1, c138, c168, ↓s138, ↓s168, FX F, y1, x98, x98p, xN, xp, q1, kd_98, ln_98, ↓reduceIte, TK, lt_run hn, le43, Int.le_refl, Int.lt_irrefl, Option.some.injEq, exists_eq_left', true_and, and_true, if_true, if_false, decide_eq_false_iff_not, decide_eq_true_eq, Nat.reduceAdd, Nat.reduceLeDiff, Nat.reduceLT, Int.reduceAdd, Int.reduceSub, Int.reduceMul, Int.reduceNeg, not_true_eq_false, not_false_eq_true]
      simp +decide (maxSteps := 4000000) (disch := omega) only [k167_0, k167_1, k167_2, k167_3, k167_4, k167_5, k167_6, k167_7, k167_8, k167_r, k167_s, F_al0, T_getI, J_ifne, F_il1, T_I, J_icne, T_goto, T_ft, F_is5i, F_is5r, F_is5m, F_il5, J_ifeq, F_il2, F_il4, F_il3, T_ret, T_iclt, T_getR, X_aald, T_dupI, T_dupR, T_add, T_putI, T_putZ, T_sub, c1, c138, c168, ↓s138, ↓s168, FX F, y1, x98, x98p, xN, xp, q1, kd_98, ln_98, ↓reduceIte, TK, lt_run hn, le43, Int.le_refl, Int.lt_irrefl, Option.some.injEq, exists_eq_left', true_and, and_true, if_true, if_false, decide_eq_false_iff_not, decide_eq_true_eq, Nat.reduceAdd, Nat.reduceLeDiff, Nat.reduceLT, Int.reduceAdd, Int.reduceSub, Int.reduceMul, Int.reduceNeg, not_true_eq_false, not_false_eq_true] at k
      exact k
  simp +decide (maxSteps := 4000000) (disch := omega) only [k167_0, k167_1, k167_2, k167_3, k167_4, k167_5, k167_7, k167_8, k167_r, k167_s, F_al0, T_getI, J_ifne, F_il1, T_I, J_icne, T_goto, T_ft, F_is5i, F_is5r, F_is5m, F_il5, J_ifeq, F_il2, F_il4, F_il3, T_ret, T_iclt, T_getR, X_aald, T_dupI, T_dupR, T_add, T_putI, T_putZ, T_sub, c1, c138, c168, ↓s138, ↓s168, y1, g2, k1, k2, g4, ↓reduceIte, TK, lt_run hn, le43, Int.le_refl, Int.lt_irrefl, Option.some.injEq, exists_eq_left', true_and, and_true, if_true, if_false, decide_eq_false_iff_not, decide_eq_true_eq, Nat.reduceAdd, Nat.reduceLeDiff, Nat.reduceLT, Int.reduceAdd, Int.reduceSub, Int.reduceMul, Int.reduceNeg, not_true_eq_false, not_false_eq_true]
  refine call _ ?_
  refine w1 F hn (i := N) hN.1 g4 g2 ⟨xp.2.1.1, by omega⟩ (fun h1 a1 a2 a3 e1 => ?_)
  have n1 : h1 43 10 = J N := by
    rw [e1 _ _ (by omega)]
    exact y1
  simp +decide (maxSteps := 4000000) (disch := omega) only [k167_0, k167_1, k167_2, k167_3, k167_4, k167_5, k167_6, k167_7, k167_8, k167_r, k167_s, F_al0, T_getI, J_ifne, F_il1, T_I, J_icne, T_goto, T_ft, F_is5i, F_is5r, F_is5m, F_il5, J_ifeq, F_il2, F_il4, F_il3, T_ret, T_iclt, T_getR, X_aald, T_dupI, T_dupR, T_add, T_putI, T_putZ, T_sub, c1, c138, c168, ↓s138, ↓s168, FX F, n1, hI_s, ↓reduceIte, TK, lt_run hn, le43, Int.le_refl, Int.lt_irrefl, Option.some.injEq, exists_eq_left', true_and, and_true, if_true, if_false, decide_eq_false_iff_not, decide_eq_true_eq, Nat.reduceAdd, Nat.reduceLeDiff, Nat.reduceLT, Int.reduceAdd, Int.reduceSub, Int.reduceMul, Int.reduceNeg, not_true_eq_false, not_false_eq_true]
  have n2 : hI h1 43 10 (J (N + 1)) 704 50 = J N := by
    rw [hI_o (by decide), e1 _ _ (by omega)]
    exact c2
  refine ⟨_, rfl, mst _ _ _ n2 ?_⟩
  rw [k283_3]
  simp +decide (maxSteps := 4000000) (disch := omega) only [k283_0, k283_1, k283_2, k283_3, k283_4, k283_5, k283_6, k283_r, k283_s, F_al0, T_getI, J_ifne, F_il1, T_I, J_icne, T_goto, T_sub, T_ft, F_is5i, F_is5r, F_is5m, F_il5, J_ifeq, F_il2, F_il3, F_il4, T_ret, T_getR, T_iast, T_dupI, T_dupR, T_add, T_putI, T_putZ, c219, ↓s219, FM F', n2, g2, k3, k4, ln_742, ln_743, ln_744, ln_745, ln_746, sA_o, hI_s, show ¬ N = 10 by omega, ↓reduceIte, TK, lt_run hn, le43, Int.le_refl, Int.lt_irrefl, Option.some.injEq, exists_eq_left', true_and, and_true, if_true, if_false, decide_eq_false_iff_not, decide_eq_true_eq, Nat.reduceAdd, Nat.reduceLeDiff, Nat.reduceLT, Int.reduceAdd, Int.reduceSub, Int.reduceMul, Int.reduceNeg, not_true_eq_false, not_false_eq_true]
  have ee : Ef (fun a k => (635 + 6 * N.toNat ≤ a ∧ a ≤ 635 + 6 * N.toNat + 5 ∧ ¬ (a = 635 + 6 * N.toNat + 1)) ∨ (742 ≤ a ∧ a ≤ 746 ∧ k = N.toNat) ∨ (a = 43 ∧ k = 10) ∨ (a = 704 ∧ k = 50)) h (hI (sA (sA (sA (sA (sA (hI h1 43 10 (J (N + 1))) 742 N (J p)) 743 N (J ln)) 744 N (J lo)) 745 N (J hi)) 746 N (J 0)) 704 50 (J (N + 1))) := Ef.hI (Ef.sA (Ef.sA (Ef.sA (Ef.sA (Ef.sA (Ef.hI (e1.mono fun a k q => by omega) (by omega)) (by omega)) (by omega)) (by omega)) (by omega)) (by omega)) (by omega)
  have e2 : Ef (fun a k => 742 ≤ a ∨ a = 43 ∨ a = 704) h1 (hI (sA (sA (sA (sA (sA (hI h1 43 10 (J (N + 1))) 742 N (J p)) 743 N (J ln)) 744 N (J lo)) 745 N (J hi)) 746 N (J 0)) 704 50 (J (N + 1))) := Ef.hI (Ef.sA (Ef.sA (Ef.sA (Ef.sA (Ef.sA (Ef.hI Ef.refl (by omega)) (by omega)) (by omega)) (by omega)) (by omega)) (by omega)) (by omega)
  refine ⟨⟨⟨N + 1, _, C.new g4 (by omega) g2 g3 ee (fun i i0 i1 => by rw [hR_o (by omega)]) hR_s ?_ hI_s ?_ ?_ (fun d d0 d1 => ?_) ⟨?_, ?_, ?_, ?_, ?_⟩⟩, Kp.of ee (fun a k q => Or.inr (Or.inl ?_))⟩, ⟨F', fun a q hq => ?_⟩, rfl⟩
  · rw [hI_o (by decide), sA_o (by decide), sA_o (by decide), sA_o (by decide), sA_o (by decide), sA_o (by decide), hI_s]
  · rw [e2 _ _ (by omega)]
    exact a1
  · rw [e2 _ _ (by omega)]
    exact a2
  · rw [e2.g (by omega), e2.g (by omega)]
    exact a3 d d0 d1
  · rw [gA_o (by decide), gs_o (by decide), gs_o (by decide), gs_o (by decide), gs_o (by decide), gs_s]
  · rw [gA_o (by decide), gs_o (by decide), gs_o (by decide), gs_o (by decide), gs_s]
  · rw [gA_o (by decide), gs_o (by decide), gs_o (by decide), gs_s]
  · rw [gA_o (by decide), gs_o (by decide), gs_s]
  · rw [gA_o (by decide), gs_s]
  · rcases q with q | q | ⟨rfl, rfl⟩ | ⟨rfl, rfl⟩
    · exact sys_12 (by omega) (by omega)
    · exact sysBm (by omega) (by omega)
    · rfl
    · rfl
  · by_cases z : a = 635 + 6 * N.toNat
    · rw [z, hR_k (fun y => hq (by omega))]
    · rw [hR_o z]
end BN
