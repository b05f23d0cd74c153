/-! clear, played, mix, blink -/
section SO
variable {E : AEn} {h h' : AHi} {hr : AHr} {n : Nat} {Q : ARs → Prop}
/-- NODES: what a node of kind k and number i tells -/
def NA (k i : Int) (T : Int → Int) : Prop := (k = 0 → 0 ≤ T 0 ∧ T 0 ≤ 16777215) ∧ (k = 1 → (0 ≤ T 0 ∧ T 0 ≤ 3) ∧ 0 ≤ T 1 ∧ T 1 ≤ 3) ∧ ((k = 2 ∨ k = 4) → (0 ≤ T 0 ∧ T 0 < i) ∧ 0 ≤ T 1 ∧ T 1 < i) ∧ (k = 3 → (0 ≤ T 0 ∧ T 0 < i) ∧ (-60 ≤ T 1 ∧ T 1 ≤ 60) ∧ -60 ≤ T 2 ∧ T 2 ≤ 60) ∧ (k = 5 → (0 ≤ T 0 ∧ T 0 < i) ∧ (0 ≤ T 1 ∧ T 1 < i) ∧ (0 ≤ T 2 ∧ T 2 ≤ 119) ∧ T 2 < T 3 ∧ T 3 ≤ 119) ∧ (k = 6 → 0 ≤ T 0 ∧ T 0 < i) ∧ (k = 7 → (-99999 ≤ T 0 ∧ T 0 ≤ 99999) ∧ (0 ≤ T 1 ∧ T 1 ≤ 47) ∧ (0 ≤ T 2 ∧ T 2 ≤ 31) ∧ (1 ≤ T 3 ∧ T 3 ≤ 20) ∧ 0 ≤ T 4 ∧ T 4 ≤ 16777215)
/-- how many things a kind tells -/
def nar (k : Int) : Int := if k = 0 then 1 else if k = 3 then 3 else if k = 5 then 4 else if k = 6 then 1 else if k = 7 then 5 else 2
def Cp16 (h : AHi) (hr : AHr) : Prop := ∃ (m : Int) (K : Int → Int) (T : Int → Int → Int), (0 ≤ m ∧ m ≤ 10) ∧ (∀ i, 0 ≤ K i ∧ K i ≤ 7) ∧ (∀ i, 0 ≤ i → i < m → NA (K i) i (T i)) ∧ (h 113 2 = J m ∧ h 704 82 = J m) ∧ (∀ i : Nat, i < 10 → ∃ k, k < 8 ∧ hr 114 i = some (4 + k)) ∧ ∀ i, 0 ≤ i → i < m → hr 114 i.toNat = some (4 + (K i).toNat) ∧ gA h 764 i = J (K i) ∧ ∀ q, 0 ≤ q → q < nar (K i) → gA h (116 + i.toNat) q = J (T i q) ∧ gA h 765 (6 * i + q) = J (T i q)
theorem sys116 {i k : Nat} (h : i < 11) : sys (116 + i) k = 16 := by
  rw [sys_A (by omega)]
  unfold sysA
  iterate 20 rw [if_neg (by omega)]
  rw [if_pos (by omega)]
theorem Cp16.sm (C : Cp16 h hr) (e : Sm 16 h h') : Cp16 h' hr := by
  obtain ⟨m, K, T, h1, h2, h3, h4, h5, h6⟩ := C
  refine ⟨m, K, T, h1, h2, h3, ?_, h5, fun i i1 i2 => ?_⟩
  · rw [e 113 2 rfl, e 704 82 rfl]
    exact h4
  · obtain ⟨a1, a2, a3⟩ := h6 i i1 i2
    rw [e.g rfl]
    refine ⟨a1, a2, fun q q1 q2 => ?_⟩
    rw [e.g (sys116 (by omega)), e.g rfl]
    exact a3 q q1 q2
theorem Pclear (F : FH hr) (hn : 775 ≤ n) (C : Cp16 h hr) : Pr2 E 194 322 [] h hr n (Po (fun h => Cp16 h hr) 16 16 h hr n) := by
  obtain ⟨m, K, T, h1, h2, h3, h4, h5, h6⟩ := C
  unfold Pr2
  have b1 := h4.1
  simp +decide (maxSteps := 4000000) (disch := omega) only [k194_0, k194_r, k194_s, F_al0, T_getR, T_getI, F_is1i, F_is1r, F_is1m, T_I, T_putI, T_putZ, F_il1, T_ret, FX F, b1, TK, lt_run hn, le43, Int.le_refl, Int.lt_irrefl, Option.some.injEq, exists_eq_left', true_and, and_true, if_true, if_false, decide_eq_false_iff_not, decide_eq_true_eq, Nat.reduceAdd, Nat.reduceLeDiff, Nat.reduceLT, Int.reduceAdd, Int.reduceSub, Int.reduceMul, Int.reduceNeg, not_true_eq_false, not_false_eq_true]
  refine ⟨_, rfl, ?_⟩
  have b2 : hI h 113 2 (J 0) 704 82 = J m := by rw [hI_o (by decide)]; exact h4.2
  simp +decide (maxSteps := 4000000) (disch := omega) only [k322_0, k322_r, k322_s, F_al0, T_getI, F_is1i, F_is1r, F_is1m, T_I, T_putI, T_putZ, F_il1, T_ret, FM F, b2, TK, lt_run hn, le43, Int.le_refl, Int.lt_irrefl, Option.some.injEq, exists_eq_left', true_and, and_true, if_true, if_false, decide_eq_false_iff_not, decide_eq_true_eq, Nat.reduceAdd, Nat.reduceLeDiff, Nat.reduceLT, Int.reduceAdd, Int.reduceSub, Int.reduceMul, Int.reduceNeg, not_true_eq_false, not_false_eq_true]
  refine ⟨⟨⟨0, K, T, by omega, h2, fun i _ _ => by omega, ⟨?_, hI_s⟩, h5, fun i _ _ => by omega⟩, Kp.hI1 (Kp.hI1 Kp.refl rfl) rfl⟩, rfl, rfl⟩
  rw [hI_o (by decide), hI_s]
/-- THE FILM -/
def Cp17 (h : AHi) : Prop := ∃ (t b : Int) (V : Int → Int → Int), (0 ≤ t ∧ t ≤ 8) ∧ (0 ≤ b ∧ b ≤ 49264) ∧ (∀ i q, -1 ≤ V i q ∧ V i q ≤ 16777215) ∧ ((h 113 10 = J t ∧ h 704 87 = J t) ∧ h 113 11 = J b ∧ h 704 88 = J b) ∧ ∀ i q, 0 ≤ i → i < t → 0 ≤ q → q < 1536 → gA h (144 + i.toNat) q = J (V i q) ∧ gA h 768 (1536 * i + q) = J (V i q)
theorem sys144 {i k : Nat} (h : i < 8) : sys (144 + i) k = 17 := by
  rw [sys_A (by omega)]
  unfold sysA
  iterate 22 rw [if_neg (by omega)]
  rw [if_pos (by omega)]
theorem Cp17.sm (C : Cp17 h) (e : Sm 17 h h') : Cp17 h' := by
  obtain ⟨t, b, V, h1, h2, h3, h4, h5⟩ := C
  refine ⟨t, b, V, h1, h2, h3, ?_, fun i q i1 i2 q1 q2 => ?_⟩
  · rw [e 113 10 rfl, e 704 87 rfl, e 113 11 rfl, e 704 88 rfl]
    exact h4
  · rw [e.g (sys144 (by omega)), e.g rfl]
    exact h5 i q i1 i2 q1 q2
theorem Pplayed (F : FH hr) (hn : 775 ≤ n) (C : Cp17 h) (x y z : Int32) : Pr2 E 204 333 [.int x, .int y, .int z] h hr n (Po Cp17 17 17 h hr n) := by
  have C0 := C
  obtain ⟨t, b, V, h1, h2, h3, ⟨⟨b1, b2⟩, _, _⟩, h5⟩ := C
  obtain ⟨a, ha, ha', rfl⟩ := J_of x
  obtain ⟨u, hu, hu', rfl⟩ := J_of y
  obtain ⟨v, hv, hv', rfl⟩ := J_of z
  unfold Pr2
  by_cases g1 : 0 ≤ a ∧ a ≤ t - 1
  case neg =>
    simp +decide (maxSteps := 4000000) (disch := omega) only [k204_0, k204_1, k204_2, k204_3, k204_4, k204_r, k204_s, F_il1, T_I, F_al0, T_getR, T_getI, T_sub, J_ifeq, F_il2, F_il3, J_ifne, T_ft, T_ret, X_aald, X_iald, F_is4i, F_is4r, F_is4m, F_il4, J_icne, T_goto, c138, c145, c151, ↓s138, ↓s145, ↓s151, FX F, g1, b1, b2, TK, lt_run hn, le43, Int.le_refl, Int.lt_irrefl, Option.some.injEq, exists_eq_left', true_and, and_true, if_true, if_false, decide_eq_false_iff_not, decide_eq_true_eq, Nat.reduceAdd, Nat.reduceLeDiff, Nat.reduceLT, Int.reduceAdd, Int.reduceSub, Int.reduceMul, Int.reduceNeg, not_true_eq_false, not_false_eq_true]
    refine ⟨_, rfl, ?_⟩
    simp +decide (maxSteps := 4000000) (disch := omega) only [k333_0, k333_1, k333_2, k333_r, k333_s, F_il1, T_I, F_al0, T_getI, T_sub, J_ifeq, F_il2, F_il3, J_ifne, T_ft, T_ret, T_getR, T_mul, T_add, X_iald, c219, c237, ↓s219, ↓s237, FM F, g1, b1, b2, TK, lt_run hn, le43, Int.le_refl, Int.lt_irrefl, Option.some.injEq, exists_eq_left', true_and, and_true, if_true, if_false, decide_eq_false_iff_not, decide_eq_true_eq, Nat.reduceAdd, Nat.reduceLeDiff, Nat.reduceLT, Int.reduceAdd, Int.reduceSub, Int.reduceMul, Int.reduceNeg, not_true_eq_false, not_false_eq_true]
    first | exact ⟨rfl, ⟨C0, Kp.refl⟩, rfl, rfl⟩ | exact ⟨⟨C0, Kp.refl⟩, rfl, rfl⟩ | exact ⟨C0, Kp.refl⟩
  by_cases g2 : (0 ≤ u ∧ u ≤ 47) ∧ 0 ≤ v ∧ v ≤ 31
  case neg =>
    simp +decide (maxSteps := 4000000) (disch := omega) only [k204_0, k204_1, k204_2, k204_3, k204_4, k204_r, k204_s, F_il1, T_I, F_al0, T_getR, T_getI, T_sub, J_ifeq, F_il2, F_il3, J_ifne, T_ft, T_ret, X_aald, X_iald, F_is4i, F_is4r, F_is4m, F_il4, J_icne, T_goto, c138, c145, c151, ↓s138, ↓s145, ↓s151, FX F, g1, g2, b1, b2, TK, lt_run hn, le43, Int.le_refl, Int.lt_irrefl, Option.some.injEq, exists_eq_left', true_and, and_true, if_true, if_false, decide_eq_false_iff_not, decide_eq_true_eq, Nat.reduceAdd, Nat.reduceLeDiff, Nat.reduceLT, Int.reduceAdd, Int.reduceSub, Int.reduceMul, Int.reduceNeg, not_true_eq_false, not_false_eq_true]
    refine ⟨_, rfl, ?_⟩
    simp +decide (maxSteps := 4000000) (disch := omega) only [k333_0, k333_1, k333_2, k333_r, k333_s, F_il1, T_I, F_al0, T_getI, T_sub, J_ifeq, F_il2, F_il3, J_ifne, T_ft, T_ret, T_getR, T_mul, T_add, X_iald, c219, c237, ↓s219, ↓s237, FM F, g1, g2, b1, b2, TK, lt_run hn, le43, Int.le_refl, Int.lt_irrefl, Option.some.injEq, exists_eq_left', true_and, and_true, if_true, if_false, decide_eq_false_iff_not, decide_eq_true_eq, Nat.reduceAdd, Nat.reduceLeDiff, Nat.reduceLT, Int.reduceAdd, Int.reduceSub, Int.reduceMul, Int.reduceNeg, not_true_eq_false, not_false_eq_true]
    first | exact ⟨rfl, ⟨C0, Kp.refl⟩, rfl, rfl⟩ | exact ⟨⟨C0, Kp.refl⟩, rfl, rfl⟩ | exact ⟨C0, Kp.refl⟩
  have x1 := X143 E F g1.1 (show a < 8 by omega)
  have c1 := h5 a (v * 48 + u) (by omega) (by omega) (by omega) (by omega)
  have c2 : gA h 768 (1536 * a + 48 * v + u) = J (V a (v * 48 + u)) := by rw [show 1536 * a + 48 * v + u = 1536 * a + (v * 48 + u) by omega]; exact c1.2
  have c3 := h3 a (v * 48 + u)
  by_cases g3 : V a (v * 48 + u) = -1
  · simp +decide (maxSteps := 4000000) (disch := omega) only [k204_0, k204_1, k204_2, k204_3, k204_4, k204_r, k204_s, F_il1, T_I, F_al0, T_getR, T_getI, T_sub, J_ifeq, F_il2, F_il3, J_ifne, T_ft, T_ret, X_aald, X_iald, F_is4i, F_is4r, F_is4m, F_il4, J_icne, T_goto, c138, c145, c151, ↓s138, ↓s145, ↓s151, FX F, g1, g2, b1, x1, c1.1, kd_143, ln_143, g3, TK, lt_run hn, le43, Int.le_refl, Int.lt_irrefl, Option.some.injEq, exists_eq_left', true_and, and_true, if_true, if_false, decide_eq_false_iff_not, decide_eq_true_eq, Nat.reduceAdd, Nat.reduceLeDiff, Nat.reduceLT, Int.reduceAdd, Int.reduceSub, Int.reduceMul, Int.reduceNeg, not_true_eq_false, not_false_eq_true]
    refine ⟨_, rfl, ?_⟩
    simp +decide (maxSteps := 4000000) (disch := omega) only [k333_0, k333_1, k333_2, k333_r, k333_s, F_il1, T_I, F_al0, T_getI, T_sub, J_ifeq, F_il2, F_il3, J_ifne, T_ft, T_ret, T_getR, T_mul, T_add, X_iald, c219, c237, ↓s219, ↓s237, FM F, g1, g2, b2, c2, ln_768, g3, TK, lt_run hn, le43, Int.le_refl, Int.lt_irrefl, Option.some.injEq, exists_eq_left', true_and, and_true, if_true, if_false, decide_eq_false_iff_not, decide_eq_true_eq, Nat.reduceAdd, Nat.reduceLeDiff, Nat.reduceLT, Int.reduceAdd, Int.reduceSub, Int.reduceMul, Int.reduceNeg, not_true_eq_false, not_false_eq_true]
    first | exact ⟨rfl, ⟨C0, Kp.refl⟩, rfl, rfl⟩ | exact ⟨⟨C0, Kp.refl⟩, rfl, rfl⟩ | exact ⟨C0, Kp.refl⟩
  · simp +decide (maxSteps := 4000000) (disch := omega) only [k204_0, k204_1, k204_2, k204_3, k204_4, k204_r, k204_s, F_il1, T_I, F_al0, T_getR, T_getI, T_sub, J_ifeq, F_il2, F_il3, J_ifne, T_ft, T_ret, X_aald, X_iald, F_is4i, F_is4r, F_is4m, F_il4, J_icne, T_goto, c138, c145, c151, ↓s138, ↓s145, ↓s151, FX F, g1, g2, b1, x1, c1.1, kd_143, ln_143, g3, TK, lt_run hn, le43, Int.le_refl, Int.lt_irrefl, Option.some.injEq, exists_eq_left', true_and, and_true, if_true, if_false, decide_eq_false_iff_not, decide_eq_true_eq, Nat.reduceAdd, Nat.reduceLeDiff, Nat.reduceLT, Int.reduceAdd, Int.reduceSub, Int.reduceMul, Int.reduceNeg, not_true_eq_false, not_false_eq_true]
    refine ⟨_, rfl, ?_⟩
    simp +decide (maxSteps := 4000000) (disch := omega) only [k333_0, k333_1, k333_2, k333_r, k333_s, F_il1, T_I, F_al0, T_getI, T_sub, J_ifeq, F_il2, F_il3, J_ifne, T_ft, T_ret, T_getR, T_mul, T_add, X_iald, c219, c237, ↓s219, ↓s237, FM F, g1, g2, b2, c2, ln_768, TK, lt_run hn, le43, Int.le_refl, Int.lt_irrefl, Option.some.injEq, exists_eq_left', true_and, and_true, if_true, if_false, decide_eq_false_iff_not, decide_eq_true_eq, Nat.reduceAdd, Nat.reduceLeDiff, Nat.reduceLT, Int.reduceAdd, Int.reduceSub, Int.reduceMul, Int.reduceNeg, not_true_eq_false, not_false_eq_true]
    first | exact ⟨rfl, ⟨C0, Kp.refl⟩, rfl, rfl⟩ | exact ⟨⟨C0, Kp.refl⟩, rfl, rfl⟩ | exact ⟨C0, Kp.refl⟩
/-- TRACKS -/
def Cp18 (h : AHi) : Prop := ∃ (B M : Int → Int) (S : Int → Int → Int), (∀ t, 0 ≤ B t ∧ B t ≤ 999) ∧ (∀ t, 0 ≤ M t ∧ M t ≤ 100) ∧ (∀ t k, -100 ≤ S t k ∧ S t k ≤ 100) ∧ ∀ t, 0 ≤ t → t < 3 → (gA h 158 t = J (B t) ∧ gA h 157 t = J (M t)) ∧ (gA h 773 t = J (B t) ∧ gA h 772 t = J (M t)) ∧ ∀ k, 0 ≤ k → k < M t → gA h (153 + t.toNat) k = J (S t k) ∧ gA h 771 (100 * t + k) = J (S t k)
theorem sys153 {i k : Nat} (h : i < 3) : sys (153 + i) k = 18 := by
  rw [sys_A (by omega)]
  unfold sysA
  iterate 24 rw [if_neg (by omega)]
  rw [if_pos (by omega)]
theorem Cp18.sm (C : Cp18 h) (e : Sm 18 h h') : Cp18 h' := by
  obtain ⟨B, M, S, h1, h2, h3, h4⟩ := C
  refine ⟨B, M, S, h1, h2, h3, fun t t1 t2 => ?_⟩
  rw [e.g rfl, e.g rfl, e.g rfl, e.g rfl]
  obtain ⟨a1, a2, a3⟩ := h4 t t1 t2
  refine ⟨a1, a2, fun k k1 k2 => ?_⟩
  rw [e.g (sys153 (by omega)), e.g rfl]
  exact a3 k k1 k2
/-- one track's part of a mix -/
def mx (a : Int) (B M : Int → Int) (S : Int → Int → Int) (t : Int) : Int := if 0 ≤ a - B t ∧ a - B t < M t then S t (a - B t) else 0
theorem mx_r {a : Int} {B M : Int → Int} {S : Int → Int → Int} (h : ∀ t k, -100 ≤ S t k ∧ S t k ≤ 100) (t : Int) : -100 ≤ mx a B M S t ∧ mx a B M S t ≤ 100 := by
  unfold mx
  split
  · exact h _ _
  · omega
def clp (s : Int) : Int := if s < -128 then -128 else if 127 < s then 127 else s
theorem w208 (F : FH hr) (hn : 775 ≤ n) {a : Int} {B M : Int → Int} {S : Int → Int → Int} (ha : -2147483648 ≤ a) (ha' : a < 2147483648) (h1 : ∀ t, 0 ≤ B t ∧ B t ≤ 999) (h2 : ∀ t, 0 ≤ M t ∧ M t ≤ 100) (h3 : ∀ t k, -100 ≤ S t k ∧ S t k ≤ 100)
    (h4 : ∀ t, 0 ≤ t → t < 3 → (gA h 158 t = J (B t) ∧ gA h 157 t = J (M t)) ∧ ∀ k, 0 ≤ k → k < M t → gA h (153 + t.toNat) k = J (S t k))
    (k : Q (some (.int (J (clp (acc (mx a B M S) 3)))), h, hr, n)) : Sp E 208 [.ref 43, .int (J a)] h hr n Q := by
  simp +decide (maxSteps := 4000000) (disch := omega) only [k208_0, k208_2, k208_3, k208_r, k208_s, T_I, F_is2i, F_is2r, F_is2m, F_is3i, F_is3r, F_is3m, T_ft, F_il3, T_icge, F_il1, F_al0, T_getR, X_iald, T_iclt, T_sub, F_il2, X_aald, T_add, F_inc3i, F_inc3r, F_inc3m, T_goto, T_ret, c347, c349, ↓s347, ↓s349, FX F, TK, lt_run hn, le43, Int.le_refl, Int.lt_irrefl, Option.some.injEq, exists_eq_left', true_and, and_true, if_true, if_false, decide_eq_false_iff_not, decide_eq_true_eq, Nat.reduceAdd, Nat.reduceLeDiff, Nat.reduceLT, Int.reduceAdd, Int.reduceSub, Int.reduceMul, Int.reduceNeg, not_true_eq_false, not_false_eq_true]
  refine T_for (σ := Int32) (fun i s => [.ref 43, .int (J a), .int s, .int (J i)]) (fun i s h' => h' = h ∧ s = J (acc (mx a B M S) i.toNat)) 0 3 ?_ ?_ 0 (J 0) h (by omega) (by omega) ⟨rfl, rfl⟩
  · rintro i s h' i0 i1 ⟨rfl, rfl⟩ ih
    obtain ⟨a1, a3⟩ := h4 i i0 i1
    have r1 := h1 i
    have r2 := h2 i
    have x1 := X152 E F i0 (show i < 4 by omega)
    by_cases g : 0 ≤ a - B i ∧ a - B i < M i
    · have c1 := a3 (a - B i) g.1 g.2
      rw [k208_1]
      simp +decide (maxSteps := 4000000) (disch := omega) only [k208_0, k208_2, k208_3, k208_r, k208_s, T_I, F_is2i, F_is2r, F_is2m, F_is3i, F_is3r, F_is3m, T_ft, F_il3, T_icge, F_il1, F_al0, T_getR, X_iald, T_iclt, T_sub, F_il2, X_aald, T_add, F_inc3i, F_inc3r, F_inc3m, T_goto, T_ret, c347, c349, ↓s347, ↓s349, FX F, x1, a1, c1, ln_157, ln_158, kd_152, ln_152, show ¬ a < B i by omega, show ¬ M i ≤ a - B i by omega, show ¬ 3 ≤ i by omega, TK, lt_run hn, le43, Int.le_refl, Int.lt_irrefl, Option.some.injEq, exists_eq_left', true_and, and_true, if_true, if_false, decide_eq_false_iff_not, decide_eq_true_eq, Nat.reduceAdd, Nat.reduceLeDiff, Nat.reduceLT, Int.reduceAdd, Int.reduceSub, Int.reduceMul, Int.reduceNeg, not_true_eq_false, not_false_eq_true]
      refine ih _ _ ⟨rfl, ?_⟩
      rw [acc_s _ i0, show mx a B M S i = S i (a - B i) by unfold mx; rw [if_pos g]]
    · have e : acc (mx a B M S) (i + 1).toNat = acc (mx a B M S) i.toNat := by
        rw [acc_s _ i0, show mx a B M S i = 0 by unfold mx; rw [if_neg g], Int.add_zero]
      by_cases g1 : a < B i
      · rw [k208_1]
        simp +decide (maxSteps := 4000000) (disch := omega) only [k208_0, k208_2, k208_3, k208_r, k208_s, T_I, F_is2i, F_is2r, F_is2m, F_is3i, F_is3r, F_is3m, T_ft, F_il3, T_icge, F_il1, F_al0, T_getR, X_iald, T_iclt, T_sub, F_il2, X_aald, T_add, F_inc3i, F_inc3r, F_inc3m, T_goto, T_ret, c347, c349, ↓s347, ↓s349, FX F, x1, a1, ln_157, ln_158, g1, show ¬ 3 ≤ i by omega, TK, lt_run hn, le43, Int.le_refl, Int.lt_irrefl, Option.some.injEq, exists_eq_left', true_and, and_true, if_true, if_false, decide_eq_false_iff_not, decide_eq_true_eq, Nat.reduceAdd, Nat.reduceLeDiff, Nat.reduceLT, Int.reduceAdd, Int.reduceSub, Int.reduceMul, Int.reduceNeg, not_true_eq_false, not_false_eq_true]
        exact ih _ _ ⟨rfl, by rw [e]⟩
      · rw [k208_1]
        simp +decide (maxSteps := 4000000) (disch := omega) only [k208_0, k208_2, k208_3, k208_r, k208_s, T_I, F_is2i, F_is2r, F_is2m, F_is3i, F_is3r, F_is3m, T_ft, F_il3, T_icge, F_il1, F_al0, T_getR, X_iald, T_iclt, T_sub, F_il2, X_aald, T_add, F_inc3i, F_inc3r, F_inc3m, T_goto, T_ret, c347, c349, ↓s347, ↓s349, FX F, x1, a1, ln_157, ln_158, g1, show M i ≤ a - B i by omega, show ¬ 3 ≤ i by omega, TK, lt_run hn, le43, Int.le_refl, Int.lt_irrefl, Option.some.injEq, exists_eq_left', true_and, and_true, if_true, if_false, decide_eq_false_iff_not, decide_eq_true_eq, Nat.reduceAdd, Nat.reduceLeDiff, Nat.reduceLT, Int.reduceAdd, Int.reduceSub, Int.reduceMul, Int.reduceNeg, not_true_eq_false, not_false_eq_true]
        exact ih _ _ ⟨rfl, by rw [e]⟩
  rintro s h' ⟨rfl, rfl⟩
  have hs := acc_r (mx_r (a := a) (B := B) (M := M) h3) 3
  have e3 : (3 : Int).toNat = 3 := rfl
  rw [e3]
  generalize acc (mx a B M S) 3 = s at k hs ⊢
  have hs : -300 ≤ s ∧ s ≤ 300 := by omega
  have e : clp s = if -128 < (if s < 127 then s else 127) then (if s < 127 then s else 127) else -128 := by
    unfold clp
    repeat' split
    all_goals omega
  have hb : -128 ≤ (if s < 127 then s else 127) + 400 ∧ (if s < 127 then s else 127) ≤ 127 := by split <;> omega
  rw [k208_1]
  simp +decide (maxSteps := 4000000) (disch := omega) only [k208_0, k208_2, k208_3, k208_r, k208_s, T_I, F_is2i, F_is2r, F_is2m, F_is3i, F_is3r, F_is3m, T_ft, F_il3, T_icge, F_il1, F_al0, T_getR, X_iald, T_iclt, T_sub, F_il2, X_aald, T_add, F_inc3i, F_inc3r, F_inc3m, T_goto, T_ret, c347, c349, ↓s347, ↓s349, FX F, TK, lt_run hn, le43, Int.le_refl, Int.lt_irrefl, Option.some.injEq, exists_eq_left', true_and, and_true, if_true, if_false, decide_eq_false_iff_not, decide_eq_true_eq, Nat.reduceAdd, Nat.reduceLeDiff, Nat.reduceLT, Int.reduceAdd, Int.reduceSub, Int.reduceMul, Int.reduceNeg, not_true_eq_false, not_false_eq_true]
  rw [← e]
  exact k
theorem w336 (F : FH hr) (hn : 775 ≤ n) {a : Int} {B M : Int → Int} {S : Int → Int → Int} (ha : -2147483648 ≤ a) (ha' : a < 2147483648) (h1 : ∀ t, 0 ≤ B t ∧ B t ≤ 999) (h2 : ∀ t, 0 ≤ M t ∧ M t ≤ 100) (h3 : ∀ t k, -100 ≤ S t k ∧ S t k ≤ 100)
    (h4 : ∀ t, 0 ≤ t → t < 3 → (gA h 773 t = J (B t) ∧ gA h 772 t = J (M t)) ∧ ∀ k, 0 ≤ k → k < M t → gA h 771 (100 * t + k) = J (S t k))
    (k : Q (some (.int (J (clp (acc (mx a B M S) 3)))), h, hr, n)) : Sp E 336 [.ref 704, .int (J a)] h hr n Q := by
  simp +decide (maxSteps := 4000000) (disch := omega) only [k336_0, k336_2, k336_3, k336_4, k336_5, k336_6, k336_7, k336_r, k336_s, T_I, F_is2i, F_is2r, F_is2m, F_is3i, F_is3r, F_is3m, T_ft, F_il3, T_icge, F_il1, F_al0, T_getR, X_iald, T_sub, F_is4i, F_is4r, F_is4m, F_il2, F_il4, J_ifeq, T_mul, T_add, T_goto, F_inc3i, F_inc3r, F_inc3m, T_icle, T_ret, c219, ↓s219, FM F, TK, lt_run hn, le43, Int.le_refl, Int.lt_irrefl, Option.some.injEq, exists_eq_left', true_and, and_true, if_true, if_false, decide_eq_false_iff_not, decide_eq_true_eq, Nat.reduceAdd, Nat.reduceLeDiff, Nat.reduceLT, Int.reduceAdd, Int.reduceSub, Int.reduceMul, Int.reduceNeg, not_true_eq_false, not_false_eq_true]
  refine T_for (σ := Int32 × Value) (fun i s => [.ref 704, .int (J a), .int s.1, .int (J i), s.2]) (fun i s h'' => h'' = h ∧ s.1 = J (acc (mx a B M S) i.toNat)) 0 3 ?_ ?_ 0 (J 0, a_mk) h (by omega) (by omega) ⟨rfl, rfl⟩
  · rintro i ⟨s, w⟩ h'' i0 i1 ⟨rfl, hs'⟩ ih
    dsimp only at hs' ⊢
    subst hs'
    obtain ⟨a2, a3⟩ := h4 i i0 i1
    have r1 := h1 i
    have r2 := h2 i
    obtain ⟨z, hz, hz1, hz2, hz3⟩ : ∃ z, J (a - B i) = J z ∧ -2147483648 ≤ z ∧ z < 2147483648 ∧ (z = a - B i ∨ 100 < z ∧ a - B i < 0) := by
      by_cases q : -2147483648 ≤ a - B i
      · exact ⟨_, rfl, q, by omega, Or.inl rfl⟩
      · exact ⟨a - B i + 4294967296, J_wrap _, by omega, by omega, Or.inr (by omega)⟩
    by_cases g : 0 ≤ z ∧ z ≤ M i - 1
    · have c1 := a3 z g.1 (by omega)
      rw [k336_1]
      simp +decide (maxSteps := 4000000) (disch := omega) only [k336_0, k336_2, k336_3, k336_4, k336_5, k336_6, k336_7, k336_r, k336_s, T_I, F_is2i, F_is2r, F_is2m, F_is3i, F_is3r, F_is3m, T_ft, F_il3, T_icge, F_il1, F_al0, T_getR, X_iald, T_sub, F_is4i, F_is4r, F_is4m, F_il2, F_il4, J_ifeq, T_mul, T_add, T_goto, F_inc3i, F_inc3r, F_inc3m, T_icle, T_ret, c219, ↓s219, FM F, a2, c1, ln_771, ln_772, ln_773, hz, g, show ¬ 3 ≤ i by omega, TK, lt_run hn, le43, Int.le_refl, Int.lt_irrefl, Option.some.injEq, exists_eq_left', true_and, and_true, if_true, if_false, decide_eq_false_iff_not, decide_eq_true_eq, Nat.reduceAdd, Nat.reduceLeDiff, Nat.reduceLT, Int.reduceAdd, Int.reduceSub, Int.reduceMul, Int.reduceNeg, not_true_eq_false, not_false_eq_true]
      refine ih (_, _) _ ⟨rfl, congrArg J ?_⟩
      rw [acc_s _ i0, show mx a B M S i = S i z by unfold mx; rw [if_pos (by omega), show z = a - B i by omega]]
    · rw [k336_1]
      simp +decide (maxSteps := 4000000) (disch := omega) only [k336_0, k336_2, k336_3, k336_4, k336_5, k336_6, k336_7, k336_r, k336_s, T_I, F_is2i, F_is2r, F_is2m, F_is3i, F_is3r, F_is3m, T_ft, F_il3, T_icge, F_il1, F_al0, T_getR, X_iald, T_sub, F_is4i, F_is4r, F_is4m, F_il2, F_il4, J_ifeq, T_mul, T_add, T_goto, F_inc3i, F_inc3r, F_inc3m, T_icle, T_ret, c219, ↓s219, FM F, a2, ln_771, ln_772, ln_773, hz, g, show ¬ 3 ≤ i by omega, TK, lt_run hn, le43, Int.le_refl, Int.lt_irrefl, Option.some.injEq, exists_eq_left', true_and, and_true, if_true, if_false, decide_eq_false_iff_not, decide_eq_true_eq, Nat.reduceAdd, Nat.reduceLeDiff, Nat.reduceLT, Int.reduceAdd, Int.reduceSub, Int.reduceMul, Int.reduceNeg, not_true_eq_false, not_false_eq_true]
      refine ih (_, _) _ ⟨rfl, congrArg J ?_⟩
      rw [acc_s _ i0, show mx a B M S i = 0 by unfold mx; rw [if_neg (by omega)]]
  rintro ⟨s, w⟩ h' ⟨rfl, hs'⟩
  dsimp only at hs' ⊢
  subst hs'
  have hs := acc_r (mx_r (a := a) (B := B) (M := M) h3) 3
  have e3 : (3 : Int).toNat = 3 := rfl
  rw [e3]
  generalize acc (mx a B M S) 3 = s at k hs ⊢
  have hs : -300 ≤ s ∧ s ≤ 300 := by omega
  unfold clp at k
  by_cases q1 : s < -128
  · rw [if_pos q1] at k
    rw [k336_1]
    simp +decide (maxSteps := 4000000) (disch := omega) only [k336_0, k336_2, k336_3, k336_4, k336_5, k336_6, k336_7, k336_r, k336_s, T_I, F_is2i, F_is2r, F_is2m, F_is3i, F_is3r, F_is3m, T_ft, F_il3, T_icge, F_il1, F_al0, T_getR, X_iald, T_sub, F_is4i, F_is4r, F_is4m, F_il2, F_il4, J_ifeq, T_mul, T_add, T_goto, F_inc3i, F_inc3r, F_inc3m, T_icle, T_ret, c219, ↓s219, show ¬ -128 ≤ s by omega, TK, lt_run hn, le43, Int.le_refl, Int.lt_irrefl, Option.some.injEq, exists_eq_left', true_and, and_true, if_true, if_false, decide_eq_false_iff_not, decide_eq_true_eq, Nat.reduceAdd, Nat.reduceLeDiff, Nat.reduceLT, Int.reduceAdd, Int.reduceSub, Int.reduceMul, Int.reduceNeg, not_true_eq_false, not_false_eq_true]
    exact k
  · rw [if_neg q1] at k
    by_cases q2 : 127 < s
    · rw [if_pos q2] at k
      rw [k336_1]
      simp +decide (maxSteps := 4000000) (disch := omega) only [k336_0, k336_2, k336_3, k336_4, k336_5, k336_6, k336_7, k336_r, k336_s, T_I, F_is2i, F_is2r, F_is2m, F_is3i, F_is3r, F_is3m, T_ft, F_il3, T_icge, F_il1, F_al0, T_getR, X_iald, T_sub, F_is4i, F_is4r, F_is4m, F_il2, F_il4, J_ifeq, T_mul, T_add, T_goto, F_inc3i, F_inc3r, F_inc3m, T_icle, T_ret, c219, ↓s219, show -128 ≤ s by omega, show ¬ s ≤ 127 by omega, TK, lt_run hn, le43, Int.le_refl, Int.lt_irrefl, Option.some.injEq, exists_eq_left', true_and, and_true, if_true, if_false, decide_eq_false_iff_not, decide_eq_true_eq, Nat.reduceAdd, Nat.reduceLeDiff, Nat.reduceLT, Int.reduceAdd, Int.reduceSub, Int.reduceMul, Int.reduceNeg, not_true_eq_false, not_false_eq_true]
      exact k
    · rw [if_neg q2] at k
      rw [k336_1]
      simp +decide (maxSteps := 4000000) (disch := omega) only [k336_0, k336_2, k336_3, k336_4, k336_5, k336_6, k336_7, k336_r, k336_s, T_I, F_is2i, F_is2r, F_is2m, F_is3i, F_is3r, F_is3m, T_ft, F_il3, T_icge, F_il1, F_al0, T_getR, X_iald, T_sub, F_is4i, F_is4r, F_is4m, F_il2, F_il4, J_ifeq, T_mul, T_add, T_goto, F_inc3i, F_inc3r, F_inc3m, T_icle, T_ret, c219, ↓s219, show -128 ≤ s by omega, show s ≤ 127 by omega, TK, lt_run hn, le43, Int.le_refl, Int.lt_irrefl, Option.some.injEq, exists_eq_left', true_and, and_true, if_true, if_false, decide_eq_false_iff_not, decide_eq_true_eq, Nat.reduceAdd, Nat.reduceLeDiff, Nat.reduceLT, Int.reduceAdd, Int.reduceSub, Int.reduceMul, Int.reduceNeg, not_true_eq_false, not_false_eq_true]
      exact k
theorem Pmix (F : FH hr) (hn : 775 ≤ n) (C : Cp18 h) (x : Int32) : Pr2 E 208 336 [.int x] h hr n (Po Cp18 18 18 h hr n) := by
  have C0 := C
  obtain ⟨B, M, S, h1, h2, h3, h4⟩ := C
  obtain ⟨a, ha, ha', rfl⟩ := J_of x
  unfold Pr2
  refine w208 F hn ha ha' h1 h2 h3 (fun t t1 t2 => ⟨(h4 t t1 t2).1, fun k k1 k2 => ((h4 t t1 t2).2.2 k k1 k2).1⟩) ⟨_, rfl, ?_⟩
  exact w336 F hn ha ha' h1 h2 h3 (fun t t1 t2 => ⟨(h4 t t1 t2).2.1, fun k k1 k2 => ((h4 t t1 t2).2.2 k k1 k2).2⟩) ⟨rfl, ⟨C0, Kp.refl⟩, rfl, rfl⟩
/-- BLINKS: where the last one begins -/
def nxr (r : Int32) : Int32 := r * J 1103515245 + J 12345
def bln (f : Int) : Nat → Int32 → Int → Int
  | 0, _, b => b
  | k + 1, r, b => if b + 3 ≤ f then bln f k (nxr r) (b + (24 + ush (nxr r) 16 % 64)) else b
theorem bln_r {f : Int} (hf : f ≤ 9999) : ∀ (k : Nat) (r : Int32) (b : Int), 20 ≤ b → b ≤ 20000 → (20 ≤ bln f k r b ∧ bln f k r b ≤ 20000) ∧ (f < b + 24 * k + 3 → f < bln f k r b + 3) := by
  intro k
  induction k with
  | zero =>
    intro r b h1 h2
    exact ⟨⟨h1, h2⟩, fun h => by show f < b + 3; omega⟩
  | succ k ih =>
    intro r b h1 h2
    unfold bln
    by_cases g : b + 3 ≤ f
    · rw [if_pos g]
      have h3 := ush16_r (nxr r)
      have h4 := ih (nxr r) (b + (24 + ush (nxr r) 16 % 64)) (by omega) (by omega)
      exact ⟨h4.1, fun q => h4.2 (by omega)⟩
    · rw [if_neg g]
      exact ⟨⟨h1, h2⟩, fun q => by omega⟩
theorem w184 (hn : 775 ≤ n) {f : Int} {x : Int32} (hf : 0 ≤ f ∧ f ≤ 9999)
    (k : Q (some (.int (J (if bln f 10000 (nxr x) (20 + ush (nxr x) 16 % 32) ≤ f then 1 else 0))), h, hr, n)) : Sp E 184 [.ref 43, .int x, .int (J f)] h hr n Q := by
  have e1 := ush16 (nxr x)
  have e2 := ush16_r (nxr x)
  unfold nxr at e1 e2
  simp +decide (maxSteps := 4000000) (disch := omega) only [k184_0, k184_1, k184_3, k184_4, k184_5, k184_r, k184_s, F_il2, T_I, J_ifne, T_ret, F_il1, T_mul, T_add, F_is3i, F_is3r, F_is3m, F_il3, T_ushr, T_rem, F_is4i, F_is4r, F_is4m, F_is5i, F_is5r, F_is5m, T_ft, F_il5, T_icge, F_il4, T_icgt, F_inc5i, F_inc5r, F_inc5m, T_goto, c138, ↓s138, hf, e1, J_remp, TK, lt_run hn, le43, Int.le_refl, Int.lt_irrefl, Option.some.injEq, exists_eq_left', true_and, and_true, if_true, if_false, decide_eq_false_iff_not, decide_eq_true_eq, Nat.reduceAdd, Nat.reduceLeDiff, Nat.reduceLT, Int.reduceAdd, Int.reduceSub, Int.reduceMul, Int.reduceNeg, not_true_eq_false, not_false_eq_true]
  have key : ∀ (q : Nat) (r : Int32) (b : Int), 20 ≤ b → b ≤ 20000 → q ≤ 10000 → f < b + 24 * q + 3 → Q (some (.int (J (if bln f q r b ≤ f then 1 else 0))), h, hr, n) → Tm E 184 (a_bl 184 2) [.ref 43, .int x, .int (J f), .int r, .int (J b), .int (J (10000 - q))] [] h hr n Q := by
    intro q
    induction q with
    | zero =>
      intro r b b1 b2 _ b3 kk
      have g : f < b + 3 := by omega
      by_cases g1 : b ≤ f
      · rw [show bln f 0 r b = b from rfl, if_pos g1] at kk
        rw [k184_2]
        simp +decide (maxSteps := 4000000) (disch := omega) only [k184_0, k184_1, k184_3, k184_4, k184_5, k184_r, k184_s, F_il2, T_I, J_ifne, T_ret, F_il1, T_mul, T_add, F_is3i, F_is3r, F_is3m, F_il3, T_ushr, T_rem, F_is4i, F_is4r, F_is4m, F_is5i, F_is5r, F_is5m, T_ft, F_il5, T_icge, F_il4, T_icgt, F_inc5i, F_inc5r, F_inc5m, T_goto, c138, ↓s138, show ¬ f < b by omega, show ¬ b + 3 ≤ f by omega, TK, lt_run hn, le43, Int.le_refl, Int.lt_irrefl, Option.some.injEq, exists_eq_left', true_and, and_true, if_true, if_false, decide_eq_false_iff_not, decide_eq_true_eq, Nat.reduceAdd, Nat.reduceLeDiff, Nat.reduceLT, Int.reduceAdd, Int.reduceSub, Int.reduceMul, Int.reduceNeg, not_true_eq_false, not_false_eq_true]
        exact kk
      · rw [show bln f 0 r b = b from rfl, if_neg g1] at kk
        rw [k184_2]
        simp +decide (maxSteps := 4000000) (disch := omega) only [k184_0, k184_1, k184_3, k184_4, k184_5, k184_r, k184_s, F_il2, T_I, J_ifne, T_ret, F_il1, T_mul, T_add, F_is3i, F_is3r, F_is3m, F_il3, T_ushr, T_rem, F_is4i, F_is4r, F_is4m, F_is5i, F_is5r, F_is5m, T_ft, F_il5, T_icge, F_il4, T_icgt, F_inc5i, F_inc5r, F_inc5m, T_goto, c138, ↓s138, show f < b by omega, TK, lt_run hn, le43, Int.le_refl, Int.lt_irrefl, Option.some.injEq, exists_eq_left', true_and, and_true, if_true, if_false, decide_eq_false_iff_not, decide_eq_true_eq, Nat.reduceAdd, Nat.reduceLeDiff, Nat.reduceLT, Int.reduceAdd, Int.reduceSub, Int.reduceMul, Int.reduceNeg, not_true_eq_false, not_false_eq_true]
        exact kk
    | succ q ih =>
      intro r b b1 b2 b3 b4 kk
      unfold bln at kk
      by_cases g : b + 3 ≤ f
      · rw [if_pos g] at kk
        have e3 := ush16 (nxr r)
        have e4 := ush16_r (nxr r)
        have kk' := ih (nxr r) (b + (24 + ush (nxr r) 16 % 64)) (by omega) (by omega) (by omega) (by omega) kk
        rw [show (10000 : Int) - (q : Nat) = 10000 - ((q + 1 : Nat) : Int) + 1 by omega] at kk'
        unfold nxr at e3 e4 kk'
        rw [k184_2]
        simp +decide (maxSteps := 4000000) (disch := omega) only [k184_0, k184_1, k184_3, k184_4, k184_5, k184_r, k184_s, F_il2, T_I, J_ifne, T_ret, F_il1, T_mul, T_add, F_is3i, F_is3r, F_is3m, F_il3, T_ushr, T_rem, F_is4i, F_is4r, F_is4m, F_is5i, F_is5r, F_is5m, T_ft, F_il5, T_icge, F_il4, T_icgt, F_inc5i, F_inc5r, F_inc5m, T_goto, c138, ↓s138, e3, J_remp, show ¬ (10000 : Int) ≤ 10000 - ((q + 1 : Nat) : Int) by omega, show ¬ f < b + 3 by omega, TK, lt_run hn, le43, Int.le_refl, Int.lt_irrefl, Option.some.injEq, exists_eq_left', true_and, and_true, if_true, if_false, decide_eq_false_iff_not, decide_eq_true_eq, Nat.reduceAdd, Nat.reduceLeDiff, Nat.reduceLT, Int.reduceAdd, Int.reduceSub, Int.reduceMul, Int.reduceNeg, not_true_eq_false, not_false_eq_true]
        exact kk'
      · rw [if_neg g] at kk
        by_cases g1 : b ≤ f
        · rw [if_pos g1] at kk
          rw [k184_2]
          simp +decide (maxSteps := 4000000) (disch := omega) only [k184_0, k184_1, k184_3, k184_4, k184_5, k184_r, k184_s, F_il2, T_I, J_ifne, T_ret, F_il1, T_mul, T_add, F_is3i, F_is3r, F_is3m, F_il3, T_ushr, T_rem, F_is4i, F_is4r, F_is4m, F_is5i, F_is5r, F_is5m, T_ft, F_il5, T_icge, F_il4, T_icgt, F_inc5i, F_inc5r, F_inc5m, T_goto, c138, ↓s138, show ¬ (10000 : Int) ≤ 10000 - ((q + 1 : Nat) : Int) by omega, show f < b + 3 by omega, show ¬ f < b by omega, show ¬ b + 3 ≤ f by omega, TK, lt_run hn, le43, Int.le_refl, Int.lt_irrefl, Option.some.injEq, exists_eq_left', true_and, and_true, if_true, if_false, decide_eq_false_iff_not, decide_eq_true_eq, Nat.reduceAdd, Nat.reduceLeDiff, Nat.reduceLT, Int.reduceAdd, Int.reduceSub, Int.reduceMul, Int.reduceNeg, not_true_eq_false, not_false_eq_true]
          exact kk
        · rw [if_neg g1] at kk
          rw [k184_2]
          simp +decide (maxSteps := 4000000) (disch := omega) only [k184_0, k184_1, k184_3, k184_4, k184_5, k184_r, k184_s, F_il2, T_I, J_ifne, T_ret, F_il1, T_mul, T_add, F_is3i, F_is3r, F_is3m, F_il3, T_ushr, T_rem, F_is4i, F_is4r, F_is4m, F_is5i, F_is5r, F_is5m, T_ft, F_il5, T_icge, F_il4, T_icgt, F_inc5i, F_inc5r, F_inc5m, T_goto, c138, ↓s138, show ¬ (10000 : Int) ≤ 10000 - ((q + 1 : Nat) : Int) by omega, show f < b + 3 by omega, show f < b by omega, TK, lt_run hn, le43, Int.le_refl, Int.lt_irrefl, Option.some.injEq, exists_eq_left', true_and, and_true, if_true, if_false, decide_eq_false_iff_not, decide_eq_true_eq, Nat.reduceAdd, Nat.reduceLeDiff, Nat.reduceLT, Int.reduceAdd, Int.reduceSub, Int.reduceMul, Int.reduceNeg, not_true_eq_false, not_false_eq_true]
          exact kk
  have k2 := key 10000 (nxr x) (20 + ush (nxr x) 16 % 32) (by have := ush16_r (nxr x); omega) (by have := ush16_r (nxr x); omega) (Nat.le_refl _) (by have := ush16_r (nxr x); omega) k
  rw [show (10000 : Int) - ((10000 : Nat) : Int) = 0 by rfl] at k2
  exact k2
theorem w306 (hn : 775 ≤ n) {f : Int} {x : Int32} (hf : 0 ≤ f ∧ f ≤ 9999)
    (k : Q (some (.int (J (if bln f 10000 (nxr x) (20 + ush (nxr x) 16 % 32) ≤ f then 1 else 0))), h, hr, n)) : Sp E 306 [.ref 704, .int x, .int (J f)] h hr n Q := by
  have e1 := ush16 (nxr x)
  have e2 := ush16_r (nxr x)
  unfold nxr at e1 e2
  simp +decide (maxSteps := 4000000) (disch := omega) only [k306_0, k306_1, k306_3, k306_4, k306_5, k306_r, k306_s, F_il2, T_I, J_ifne, T_ret, F_il1, T_mul, T_add, F_is3i, F_is3r, F_is3m, F_il3, T_ushr, T_rem, F_is4i, F_is4r, F_is4m, T_ft, F_il4, T_icgt, T_goto, c219, ↓s219, hf, e1, J_remp, TK, lt_run hn, le43, Int.le_refl, Int.lt_irrefl, Option.some.injEq, exists_eq_left', true_and, and_true, if_true, if_false, decide_eq_false_iff_not, decide_eq_true_eq, Nat.reduceAdd, Nat.reduceLeDiff, Nat.reduceLT, Int.reduceAdd, Int.reduceSub, Int.reduceMul, Int.reduceNeg, not_true_eq_false, not_false_eq_true]
  have key : ∀ (q : Nat) (r : Int32) (b : Int), 20 ≤ b → b ≤ 20000 → f < b + 24 * q + 3 → Q (some (.int (J (if bln f q r b ≤ f then 1 else 0))), h, hr, n) → Tm E 306 (a_bl 306 2) [.ref 704, .int x, .int (J f), .int r, .int (J b)] [] h hr n Q := by
    intro q
    induction q with
    | zero =>
      intro r b b1 b2 b3 kk
      have g : f < b + 3 := by omega
      by_cases g1 : b ≤ f
      · rw [show bln f 0 r b = b from rfl, if_pos g1] at kk
        rw [k306_2]
        simp +decide (maxSteps := 4000000) (disch := omega) only [k306_0, k306_1, k306_3, k306_4, k306_5, k306_r, k306_s, F_il2, T_I, J_ifne, T_ret, F_il1, T_mul, T_add, F_is3i, F_is3r, F_is3m, F_il3, T_ushr, T_rem, F_is4i, F_is4r, F_is4m, T_ft, F_il4, T_icgt, T_goto, c219, ↓s219, g, show ¬ f < b by omega, TK, lt_run hn, le43, Int.le_refl, Int.lt_irrefl, Option.some.injEq, exists_eq_left', true_and, and_true, if_true, if_false, decide_eq_false_iff_not, decide_eq_true_eq, Nat.reduceAdd, Nat.reduceLeDiff, Nat.reduceLT, Int.reduceAdd, Int.reduceSub, Int.reduceMul, Int.reduceNeg, not_true_eq_false, not_false_eq_true]
        exact kk
      · rw [show bln f 0 r b = b from rfl, if_neg g1] at kk
        rw [k306_2]
        simp +decide (maxSteps := 4000000) (disch := omega) only [k306_0, k306_1, k306_3, k306_4, k306_5, k306_r, k306_s, F_il2, T_I, J_ifne, T_ret, F_il1, T_mul, T_add, F_is3i, F_is3r, F_is3m, F_il3, T_ushr, T_rem, F_is4i, F_is4r, F_is4m, T_ft, F_il4, T_icgt, T_goto, c219, ↓s219, g, show f < b by omega, TK, lt_run hn, le43, Int.le_refl, Int.lt_irrefl, Option.some.injEq, exists_eq_left', true_and, and_true, if_true, if_false, decide_eq_false_iff_not, decide_eq_true_eq, Nat.reduceAdd, Nat.reduceLeDiff, Nat.reduceLT, Int.reduceAdd, Int.reduceSub, Int.reduceMul, Int.reduceNeg, not_true_eq_false, not_false_eq_true]
        exact kk
    | succ q ih =>
      intro r b b1 b2 b4 kk
      unfold bln at kk
      by_cases g : b + 3 ≤ f
      · rw [if_pos g] at kk
        have e3 := ush16 (nxr r)
        have e4 := ush16_r (nxr r)
        have kk' := ih (nxr r) (b + (24 + ush (nxr r) 16 % 64)) (by omega) (by omega) (by omega) kk
        unfold nxr at e3 e4 kk'
        rw [k306_2]
        simp +decide (maxSteps := 4000000) (disch := omega) only [k306_0, k306_1, k306_3, k306_4, k306_5, k306_r, k306_s, F_il2, T_I, J_ifne, T_ret, F_il1, T_mul, T_add, F_is3i, F_is3r, F_is3m, F_il3, T_ushr, T_rem, F_is4i, F_is4r, F_is4m, T_ft, F_il4, T_icgt, T_goto, c219, ↓s219, e3, J_remp, show ¬ f < b + 3 by omega, TK, lt_run hn, le43, Int.le_refl, Int.lt_irrefl, Option.some.injEq, exists_eq_left', true_and, and_true, if_true, if_false, decide_eq_false_iff_not, decide_eq_true_eq, Nat.reduceAdd, Nat.reduceLeDiff, Nat.reduceLT, Int.reduceAdd, Int.reduceSub, Int.reduceMul, Int.reduceNeg, not_true_eq_false, not_false_eq_true]
        exact kk'
      · rw [if_neg g] at kk
        by_cases g1 : b ≤ f
        · rw [if_pos g1] at kk
          rw [k306_2]
          simp +decide (maxSteps := 4000000) (disch := omega) only [k306_0, k306_1, k306_3, k306_4, k306_5, k306_r, k306_s, F_il2, T_I, J_ifne, T_ret, F_il1, T_mul, T_add, F_is3i, F_is3r, F_is3m, F_il3, T_ushr, T_rem, F_is4i, F_is4r, F_is4m, T_ft, F_il4, T_icgt, T_goto, c219, ↓s219, show f < b + 3 by omega, show ¬ f < b by omega, TK, lt_run hn, le43, Int.le_refl, Int.lt_irrefl, Option.some.injEq, exists_eq_left', true_and, and_true, if_true, if_false, decide_eq_false_iff_not, decide_eq_true_eq, Nat.reduceAdd, Nat.reduceLeDiff, Nat.reduceLT, Int.reduceAdd, Int.reduceSub, Int.reduceMul, Int.reduceNeg, not_true_eq_false, not_false_eq_true]
          exact kk
        · rw [if_neg g1] at kk
          rw [k306_2]
          simp +decide (maxSteps := 4000000) (disch := omega) only [k306_0, k306_1, k306_3, k306_4, k306_5, k306_r, k306_s, F_il2, T_I, J_ifne, T_ret, F_il1, T_mul, T_add, F_is3i, F_is3r, F_is3m, F_il3, T_ushr, T_rem, F_is4i, F_is4r, F_is4m, T_ft, F_il4, T_icgt, T_goto, c219, ↓s219, show f < b + 3 by omega, show f < b by omega, TK, lt_run hn, le43, Int.le_refl, Int.lt_irrefl, Option.some.injEq, exists_eq_left', true_and, and_true, if_true, if_false, decide_eq_false_iff_not, decide_eq_true_eq, Nat.reduceAdd, Nat.reduceLeDiff, Nat.reduceLT, Int.reduceAdd, Int.reduceSub, Int.reduceMul, Int.reduceNeg, not_true_eq_false, not_false_eq_true]
          exact kk
  exact key 10000 (nxr x) (20 + ush (nxr x) 16 % 32) (by have := ush16_r (nxr x); omega) (by have := ush16_r (nxr x); omega) (by have := ush16_r (nxr x); omega) k
theorem Pblink (F : FH hr) (hn : 775 ≤ n) (x y : Int32) : Pr2 E 184 306 [.int x, .int y] h hr n (Po (fun _ => True) 0 0 h hr n) := by
  obtain ⟨f, hf, hf', rfl⟩ := J_of y
  unfold Pr2
  by_cases g1 : 0 ≤ f ∧ f ≤ 9999
  case neg =>
    simp +decide (maxSteps := 4000000) (disch := omega) only [k184_0, k184_1, k184_3, k184_4, k184_5, k184_r, k184_s, F_il2, T_I, J_ifne, T_ret, F_il1, T_mul, T_add, F_is3i, F_is3r, F_is3m, F_il3, T_ushr, T_rem, F_is4i, F_is4r, F_is4m, F_is5i, F_is5r, F_is5m, T_ft, F_il5, T_icge, F_il4, T_icgt, F_inc5i, F_inc5r, F_inc5m, T_goto, c138, ↓s138, FX F, g1, TK, lt_run hn, le43, Int.le_refl, Int.lt_irrefl, Option.some.injEq, exists_eq_left', true_and, and_true, if_true, if_false, decide_eq_false_iff_not, decide_eq_true_eq, Nat.reduceAdd, Nat.reduceLeDiff, Nat.reduceLT, Int.reduceAdd, Int.reduceSub, Int.reduceMul, Int.reduceNeg, not_true_eq_false, not_false_eq_true]
    refine ⟨_, rfl, ?_⟩
    simp +decide (maxSteps := 4000000) (disch := omega) only [k306_0, k306_1, k306_3, k306_4, k306_5, k306_r, k306_s, F_il2, T_I, J_ifne, T_ret, F_il1, T_mul, T_add, F_is3i, F_is3r, F_is3m, F_il3, T_ushr, T_rem, F_is4i, F_is4r, F_is4m, T_ft, F_il4, T_icgt, T_goto, c219, ↓s219, FM F, g1, TK, lt_run hn, le43, Int.le_refl, Int.lt_irrefl, Option.some.injEq, exists_eq_left', true_and, and_true, if_true, if_false, decide_eq_false_iff_not, decide_eq_true_eq, Nat.reduceAdd, Nat.reduceLeDiff, Nat.reduceLT, Int.reduceAdd, Int.reduceSub, Int.reduceMul, Int.reduceNeg, not_true_eq_false, not_false_eq_true]
    first | exact ⟨rfl, ⟨trivial, Kp.refl⟩, rfl, rfl⟩ | exact ⟨⟨trivial, Kp.refl⟩, rfl, rfl⟩ | exact ⟨trivial, Kp.refl⟩
  exact w184 hn g1 ⟨_, rfl, w306 hn g1 ⟨rfl, ⟨trivial, Kp.refl⟩, rfl, rfl⟩⟩
end SO
