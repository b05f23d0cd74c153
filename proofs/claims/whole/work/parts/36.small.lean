/-! Small calls: colour, depth, wiggle, shown, mark, unmark, partner, pivot, letter, clear, played, mouth, mix, blink -/
theorem le43 {a : Nat} (h : 43 ≤ a) : (43 ≤ a) = True := eq_true h
/-- what a call leaves behind it -/
def Po (P : AHi → Prop) (x y : Nat) (h : AHi) (hr : AHr) (n : Nat) : AHi → AHr → Nat → Prop := fun h' hr' n' => (P h' ∧ Kp x y h h') ∧ hr' = hr ∧ n' = n
theorem sw_lo {lo : Int} {d : Nat} {ts : List Nat} {a : Int} (h : -2147483648 ≤ a) (h' : a < 2147483648) (k : a < lo) : a_sw lo d ts (J a) = d := by
  unfold a_sw
  rw [J_toInt h h', if_pos k]
theorem sw_hi {lo : Int} {d : Nat} {ts : List Nat} {a : Int} (h : -2147483648 ≤ a) (h' : a < 2147483648) (k : lo + ts.length ≤ a) : a_sw lo d ts (J a) = d := by
  unfold a_sw
  rw [J_toInt h h', if_neg (by omega), List.getD_eq_getElem?_getD, List.getElem?_eq_none (by omega)]
  rfl
theorem J_wrap (a : Int) : J a = J (a + 4294967296) := by
  unfold J
  rw [Int32.ofInt_eq_iff_bmod_eq_toInt, Int32.toInt_ofInt]
  have : (a + 4294967296).bmod (2 ^ 32) = a.bmod (2 ^ 32) := Int.add_bmod_right ..
  rw [this]
/-- sums -/
def acc (f : Int → Int) : Nat → Int
  | 0 => 0
  | k + 1 => acc f k + f k
theorem acc_s (f : Int → Int) {i : Int} (h : 0 ≤ i) : acc f (i + 1).toNat = acc f i.toNat + f i := by
  rw [show (i + 1).toNat = i.toNat + 1 by omega]
  show acc f i.toNat + f (i.toNat : Int) = _
  rw [Int.toNat_of_nonneg h]
theorem acc_r {f : Int → Int} {lo hi : Int} (h : ∀ i, lo ≤ f i ∧ f i ≤ hi) : ∀ k : Nat, (k : Int) * lo ≤ acc f k ∧ acc f k ≤ (k : Int) * hi := by
  intro k
  induction k with
  | zero => exact ⟨by simp [acc], by simp [acc]⟩
  | succ k ih =>
    have h1 := h k
    have e1 : ((k + 1 : Nat) : Int) * lo = k * lo + lo := by rw [Int.natCast_add, Int.add_mul]; simp
    have e2 : ((k + 1 : Nat) : Int) * hi = k * hi + hi := by rw [Int.natCast_add, Int.add_mul]; simp
    rw [e1, e2]
    show _ ≤ acc f k + f k ∧ acc f k + f k ≤ _
    omega
/-- a shift to the right without sign -/
def ush (r : Int32) (c : Nat) : Int := ((r.toUInt32.toNat / 2 ^ c : Nat) : Int)
theorem ush_J (r : Int32) (c : Nat) (h1 : ((J c).toUInt32 &&& Int32.toUInt32 31).toBitVec % 32 = BitVec.ofNat 32 c) (h2 : c < 32) : a_ushr r (J c) = J (ush r c) := by
  have e0 : (a_ushr r (J c)).toBitVec = r.toBitVec >>> (((J c).toUInt32 &&& Int32.toUInt32 31).toBitVec % 32) := UInt32.toBitVec_shiftRight r.toUInt32 ((J c).toUInt32 &&& Int32.toUInt32 31)
  have e1 : (a_ushr r (J c)).toBitVec = r.toBitVec >>> c := by
    rw [e0, h1, BitVec.ushiftRight_eq', BitVec.toNat_ofNat, Nat.mod_eq_of_lt (by omega)]
  rw [← Int32.toBitVec_inj, e1]
  unfold J ush
  rw [Int32.ofInt_eq_ofNat]
  apply BitVec.eq_of_toNat_eq
  rw [BitVec.toNat_ushiftRight, Nat.shiftRight_eq_div_pow]
  show r.toUInt32.toNat / 2 ^ c = (r.toUInt32.toNat / 2 ^ c) % 2 ^ 32
  rw [Nat.mod_eq_of_lt]
  exact Nat.lt_of_le_of_lt (Nat.div_le_self _ _) r.toUInt32.toNat_lt
theorem ush16 (r : Int32) : a_ushr r (J 16) = J (ush r 16) := ush_J r 16 (by decide +kernel) (by decide)
theorem ush8 (r : Int32) : a_ushr r (J 8) = J (ush r 8) := ush_J r 8 (by decide +kernel) (by decide)
theorem ush16_r (r : Int32) : 0 ≤ ush r 16 ∧ ush r 16 < 65536 := by
  have h2 := r.toUInt32.toNat_lt
  show 0 ≤ ((r.toUInt32.toNat / 65536 : Nat) : Int) ∧ ((r.toUInt32.toNat / 65536 : Nat) : Int) < 65536
  omega
theorem ush8_r (r : Int32) : 0 ≤ ush r 8 ∧ ush r 8 < 16777216 := by
  have h2 := r.toUInt32.toNat_lt
  show 0 ≤ ((r.toUInt32.toNat / 256 : Nat) : Int) ∧ ((r.toUInt32.toNat / 256 : Nat) : Int) < 16777216
  omega
section SM
variable {E : AEn} {h h' : AHi} {hr : AHr} {n : Nat} {Q : ARs → Prop}
/-- PALETTES -/
def Cp5 (h : AHi) : Prop := ∃ P : Int → Int → Int, (∀ p c, 0 ≤ P p c ∧ P p c ≤ 16777215) ∧ ∀ p c, 0 ≤ p → p < 4 → 1 ≤ c → c < 16 → gA h (86 + p.toNat) c = J (P p c) ∧ gA h 733 (16 * p + c) = J (P p c)
theorem sys86 {p k : Nat} (h : p < 4) : sys (86 + p) k = 5 := by
  rw [sys_A (by omega)]
  unfold sysA
  rw [if_neg (by omega), if_neg (by omega), if_neg (by omega), if_neg (by omega), if_neg (by omega), if_pos (by omega)]
theorem Cp5.sm (C : Cp5 h) (e : Sm 5 h h') : Cp5 h' := by
  obtain ⟨P, h1, h2⟩ := C
  refine ⟨P, h1, fun p c a1 a2 a3 a4 => ?_⟩
  rw [e.g (sys86 (by omega)), e.g rfl]
  exact h2 p c a1 a2 a3 a4
theorem Pcolour (F : FH hr) (hn : 775 ≤ n) (C : Cp5 h) (x y z : Int32) : Pr2 E 156 262 [.int x, .int y, .int z] h hr n (Po Cp5 5 5 h hr n) := by
  have C0 := C
  obtain ⟨P, h1, h2⟩ := C
  obtain ⟨a, ha, ha', rfl⟩ := J_of x
  obtain ⟨b, hb, hb', rfl⟩ := J_of y
  obtain ⟨c, hc, hc', rfl⟩ := J_of z
  unfold Pr2
  by_cases g1 : 0 ≤ a ∧ a ≤ 3
  case neg =>
    simp +decide (maxSteps := 4000000) (disch := omega) only [k156_0, k156_1, k156_2, k156_r, k156_s, F_il1, T_I, J_ifeq, F_il2, F_il3, J_ifne, T_ft, T_ret, F_al0, T_getR, X_aald, X_iald, F_is4i, F_is4r, F_is4m, T_iast, F_il4, c138, c150, ↓s138, ↓s150, FX F, g1, TK, lt_run hn, le43, Int.le_refl, Int.lt_irrefl, Option.some.injEq, exists_eq_left', true_and, and_true, if_true, if_false, decide_eq_false_iff_not, decide_eq_true_eq, Nat.reduceAdd, Nat.reduceLeDiff, Nat.reduceLT, Int.reduceAdd, Int.reduceSub, Int.reduceMul, Int.reduceNeg, not_true_eq_false, not_false_eq_true]
    refine ⟨_, rfl, ?_⟩
    simp +decide (maxSteps := 4000000) (disch := omega) only [k262_0, k262_1, k262_2, k262_r, k262_s, F_il1, T_I, J_ifeq, F_il2, F_il3, J_ifne, T_ft, T_ret, F_al0, T_getR, T_mul, T_add, X_iald, F_is4i, F_is4r, F_is4m, T_iast, F_il4, c219, ↓s219, FM F, g1, TK, lt_run hn, le43, Int.le_refl, Int.lt_irrefl, Option.some.injEq, exists_eq_left', true_and, and_true, if_true, if_false, decide_eq_false_iff_not, decide_eq_true_eq, Nat.reduceAdd, Nat.reduceLeDiff, Nat.reduceLT, Int.reduceAdd, Int.reduceSub, Int.reduceMul, Int.reduceNeg, not_true_eq_false, not_false_eq_true]
    first | exact ⟨rfl, ⟨C0, Kp.refl⟩, rfl, rfl⟩ | exact ⟨⟨C0, Kp.refl⟩, rfl, rfl⟩ | exact ⟨C0, Kp.refl⟩
  by_cases g2 : 1 ≤ b ∧ b ≤ 15
  case neg =>
    simp +decide (maxSteps := 4000000) (disch := omega) only [k156_0, k156_1, k156_2, k156_r, k156_s, F_il1, T_I, J_ifeq, F_il2, F_il3, J_ifne, T_ft, T_ret, F_al0, T_getR, X_aald, X_iald, F_is4i, F_is4r, F_is4m, T_iast, F_il4, c138, c150, ↓s138, ↓s150, FX F, g1, g2, TK, lt_run hn, le43, Int.le_refl, Int.lt_irrefl, Option.some.injEq, exists_eq_left', true_and, and_true, if_true, if_false, decide_eq_false_iff_not, decide_eq_true_eq, Nat.reduceAdd, Nat.reduceLeDiff, Nat.reduceLT, Int.reduceAdd, Int.reduceSub, Int.reduceMul, Int.reduceNeg, not_true_eq_false, not_false_eq_true]
    refine ⟨_, rfl, ?_⟩
    simp +decide (maxSteps := 4000000) (disch := omega) only [k262_0, k262_1, k262_2, k262_r, k262_s, F_il1, T_I, J_ifeq, F_il2, F_il3, J_ifne, T_ft, T_ret, F_al0, T_getR, T_mul, T_add, X_iald, F_is4i, F_is4r, F_is4m, T_iast, F_il4, c219, ↓s219, FM F, g1, g2, TK, lt_run hn, le43, Int.le_refl, Int.lt_irrefl, Option.some.injEq, exists_eq_left', true_and, and_true, if_true, if_false, decide_eq_false_iff_not, decide_eq_true_eq, Nat.reduceAdd, Nat.reduceLeDiff, Nat.reduceLT, Int.reduceAdd, Int.reduceSub, Int.reduceMul, Int.reduceNeg, not_true_eq_false, not_false_eq_true]
    first | exact ⟨rfl, ⟨C0, Kp.refl⟩, rfl, rfl⟩ | exact ⟨⟨C0, Kp.refl⟩, rfl, rfl⟩ | exact ⟨C0, Kp.refl⟩
  by_cases g3 : 0 ≤ c ∧ c ≤ 16777215
  case neg =>
    simp +decide (maxSteps := 4000000) (disch := omega) only [k156_0, k156_1, k156_2, k156_r, k156_s, F_il1, T_I, J_ifeq, F_il2, F_il3, J_ifne, T_ft, T_ret, F_al0, T_getR, X_aald, X_iald, F_is4i, F_is4r, F_is4m, T_iast, F_il4, c138, c150, ↓s138, ↓s150, FX F, g1, g2, g3, TK, lt_run hn, le43, Int.le_refl, Int.lt_irrefl, Option.some.injEq, exists_eq_left', true_and, and_true, if_true, if_false, decide_eq_false_iff_not, decide_eq_true_eq, Nat.reduceAdd, Nat.reduceLeDiff, Nat.reduceLT, Int.reduceAdd, Int.reduceSub, Int.reduceMul, Int.reduceNeg, not_true_eq_false, not_false_eq_true]
    refine ⟨_, rfl, ?_⟩
    simp +decide (maxSteps := 4000000) (disch := omega) only [k262_0, k262_1, k262_2, k262_r, k262_s, F_il1, T_I, J_ifeq, F_il2, F_il3, J_ifne, T_ft, T_ret, F_al0, T_getR, T_mul, T_add, X_iald, F_is4i, F_is4r, F_is4m, T_iast, F_il4, c219, ↓s219, FM F, g1, g2, g3, TK, lt_run hn, le43, Int.le_refl, Int.lt_irrefl, Option.some.injEq, exists_eq_left', true_and, and_true, if_true, if_false, decide_eq_false_iff_not, decide_eq_true_eq, Nat.reduceAdd, Nat.reduceLeDiff, Nat.reduceLT, Int.reduceAdd, Int.reduceSub, Int.reduceMul, Int.reduceNeg, not_true_eq_false, not_false_eq_true]
    first | exact ⟨rfl, ⟨C0, Kp.refl⟩, rfl, rfl⟩ | exact ⟨⟨C0, Kp.refl⟩, rfl, rfl⟩ | exact ⟨C0, Kp.refl⟩
  have x1 := X85 E F g1.1 (show a < 4 by omega)
  have h3 := h2 a b (by omega) (by omega) (by omega) (by omega)
  simp +decide (maxSteps := 4000000) (disch := omega) only [k156_0, k156_1, k156_2, k156_r, k156_s, F_il1, T_I, J_ifeq, F_il2, F_il3, J_ifne, T_ft, T_ret, F_al0, T_getR, X_aald, X_iald, F_is4i, F_is4r, F_is4m, T_iast, F_il4, c138, c150, ↓s138, ↓s150, FX F, g1, g2, g3, x1, h3.1, kd_85, ln_85, TK, lt_run hn, le43, Int.le_refl, Int.lt_irrefl, Option.some.injEq, exists_eq_left', true_and, and_true, if_true, if_false, decide_eq_false_iff_not, decide_eq_true_eq, Nat.reduceAdd, Nat.reduceLeDiff, Nat.reduceLT, Int.reduceAdd, Int.reduceSub, Int.reduceMul, Int.reduceNeg, not_true_eq_false, not_false_eq_true]
  refine ⟨_, rfl, ?_⟩
  have h4 : gA (sA h (86 + a.toNat) b (J c)) 733 (16 * a + b) = J (P a b) := by rw [gs_o (by omega)]; exact h3.2
  simp +decide (maxSteps := 4000000) (disch := omega) only [k262_0, k262_1, k262_2, k262_r, k262_s, F_il1, T_I, J_ifeq, F_il2, F_il3, J_ifne, T_ft, T_ret, F_al0, T_getR, T_mul, T_add, X_iald, F_is4i, F_is4r, F_is4m, T_iast, F_il4, c219, ↓s219, FM F, g1, g2, g3, ln_733, h4, TK, lt_run hn, le43, Int.le_refl, Int.lt_irrefl, Option.some.injEq, exists_eq_left', true_and, and_true, if_true, if_false, decide_eq_false_iff_not, decide_eq_true_eq, Nat.reduceAdd, Nat.reduceLeDiff, Nat.reduceLT, Int.reduceAdd, Int.reduceSub, Int.reduceMul, Int.reduceNeg, not_true_eq_false, not_false_eq_true]
  refine ⟨⟨⟨fun p q => if p = a ∧ q = b then c else P p q, fun p q => ?_, fun p q p1 p2 q1 q2 => ?_⟩, ?_⟩, rfl, rfl⟩
  · dsimp only
    split
    · omega
    · exact h1 p q
  · dsimp only
    have h5 := h2 p q p1 p2 q1 q2
    refine ⟨?_, ?_⟩
    · rw [gs_o (by omega)]
      by_cases e1 : p = a
      · subst e1
        by_cases e2 : q = b
        · subst e2
          rw [if_pos ⟨rfl, rfl⟩, gs_s]
        · rw [if_neg (fun z => e2 z.2), gs_k (by omega) (by omega) e2]
          exact h5.1
      · rw [if_neg (fun z => e1 z.1), gs_o (by omega)]
        exact h5.1
    · by_cases e : p = a ∧ q = b
      · obtain ⟨rfl, rfl⟩ := e
        rw [if_pos ⟨rfl, rfl⟩, gs_s]
      · rw [if_neg e, gs_k (by omega) (by omega) (by omega), gs_o (by omega)]
        exact h5.2
  · exact (Kp.refl.sA1 (sys86 (by omega))).sA1 rfl
/-- ROWS of the sheet -/
def Cp6 (h : AHi) : Prop := ∃ (N : Int → Int) (R : Int → Int → Int), (∀ l, 0 ≤ N l ∧ N l ≤ 120) ∧ (∀ l f, -1 ≤ R l f ∧ R l f ≤ 15) ∧ ∀ l, 0 ≤ l → l < 4 → h (623 + 3 * l.toNat) 1 = J (N l) ∧ gA h 735 l = J (N l) ∧ ∀ f, 0 ≤ f → f < N l → gA h (624 + 3 * l.toNat) f = J (R l f) ∧ gA h 734 (120 * l + f) = J (R l f)
theorem sysL1 {l : Nat} (h : l < 4) : sys (623 + 3 * l) 1 = 6 := by
  rw [sys_L (by omega) (by omega), show (623 + 3 * l - 623) % 3 = 0 by omega]
  rfl
theorem sysL2 {l k : Nat} (h : l < 4) : sys (624 + 3 * l) k = 6 := by
  rw [sys_L (by omega) (by omega), show (624 + 3 * l - 623) % 3 = 1 by omega]
  rfl
theorem sysL0 {l k : Nat} (h : l < 4) : sys (625 + 3 * l) k = 0 := by
  rw [sys_L (by omega) (by omega), show (625 + 3 * l - 623) % 3 = 2 by omega]
  rfl
theorem sysL4 {l : Nat} (h : l < 4) : sys (623 + 3 * l) 4 = 7 := by
  rw [sys_L (by omega) (by omega), show (623 + 3 * l - 623) % 3 = 0 by omega]
  rfl
theorem sysL5 {l : Nat} (h : l < 4) : sys (623 + 3 * l) 5 = 8 ∧ sys (623 + 3 * l) 6 = 8 ∧ sys (623 + 3 * l) 7 = 8 ∧ sys (623 + 3 * l) 3 = 0 := by
  have e : (623 + 3 * l - 623) % 3 = 0 := by omega
  refine ⟨?_, ?_, ?_, ?_⟩ <;> (rw [sys_L (by omega) (by omega), e]; rfl)
theorem Cp6.sm (C : Cp6 h) (e : Sm 6 h h') : Cp6 h' := by
  obtain ⟨N, R, h1, h2, h3⟩ := C
  refine ⟨N, R, h1, h2, fun l a1 a2 => ?_⟩
  obtain ⟨b1, b2, b3⟩ := h3 l a1 a2
  rw [e _ _ (sysL1 (by omega)), e.g rfl]
  refine ⟨b1, b2, fun f c1 c2 => ?_⟩
  rw [e.g (sysL2 (by omega)), e.g rfl]
  exact b3 f c1 c2
/-- what a row shows -/
def row (N : Int) (R : Int → Int) (f : Int) : Int := if 0 ≤ f ∧ f < N then R f else -1
theorem row_r {N : Int} {R : Int → Int} (h : ∀ f, -1 ≤ R f ∧ R f ≤ 15) (f : Int) : -1 ≤ row N R f ∧ row N R f ≤ 15 := by
  unfold row
  split
  · exact h f
  · omega
theorem s62 (F : FH hr) (hn : 775 ≤ n) {l N f : Int} {R : Int → Int} (l0 : 0 ≤ l) (l1 : l < 4) (hN : 0 ≤ N ∧ N ≤ 120) (hf : -2147483648 ≤ f) (hf' : f < 2147483648) (b1 : h (623 + 3 * l.toNat) 1 = J N) (b3 : ∀ f, 0 ≤ f → f < N → gA h (624 + 3 * l.toNat) f = J (R f)) : Sp E 62 [.ref (623 + 3 * l.toNat), .int (J f)] h hr n Q ↔ Q (some (.int (J (row N R f))), h, hr, n) := by
  have x1 := X90 E F l0 l1
  by_cases g : 0 ≤ f ∧ f < N
  · have b4 := b3 f g.1 g.2
    simp +decide (maxSteps := 4000000) (disch := omega) only [k62_0, k62_1, k62_2, k62_r, k62_s, F_il1, J_iflt, F_al0, T_getI, T_icge, T_getR, X_iald, T_goto, T_I, T_ft, T_ret, x1, b1, b4, show ¬ f < 0 by omega, show ¬ N ≤ f by omega, TK, lt_run hn, le43, Int.le_refl, Int.lt_irrefl, Option.some.injEq, exists_eq_left', true_and, and_true, if_true, if_false, decide_eq_false_iff_not, decide_eq_true_eq, Nat.reduceAdd, Nat.reduceLeDiff, Nat.reduceLT, Int.reduceAdd, Int.reduceSub, Int.reduceMul, Int.reduceNeg, not_true_eq_false, not_false_eq_true]
    unfold row
    rw [if_pos g]
  · have e : row N R f = -1 := if_neg g
    rw [e]
    by_cases g1 : f < 0
    · simp +decide (maxSteps := 4000000) (disch := omega) only [k62_0, k62_1, k62_2, k62_r, k62_s, F_il1, J_iflt, F_al0, T_getI, T_icge, T_getR, X_iald, T_goto, T_I, T_ft, T_ret, x1, b1, g1, TK, lt_run hn, le43, Int.le_refl, Int.lt_irrefl, Option.some.injEq, exists_eq_left', true_and, and_true, if_true, if_false, decide_eq_false_iff_not, decide_eq_true_eq, Nat.reduceAdd, Nat.reduceLeDiff, Nat.reduceLT, Int.reduceAdd, Int.reduceSub, Int.reduceMul, Int.reduceNeg, not_true_eq_false, not_false_eq_true]
    · simp +decide (maxSteps := 4000000) (disch := omega) only [k62_0, k62_1, k62_2, k62_r, k62_s, F_il1, J_iflt, F_al0, T_getI, T_icge, T_getR, X_iald, T_goto, T_I, T_ft, T_ret, x1, b1, g1, show N ≤ f by omega, TK, lt_run hn, le43, Int.le_refl, Int.lt_irrefl, Option.some.injEq, exists_eq_left', true_and, and_true, if_true, if_false, decide_eq_false_iff_not, decide_eq_true_eq, Nat.reduceAdd, Nat.reduceLeDiff, Nat.reduceLT, Int.reduceAdd, Int.reduceSub, Int.reduceMul, Int.reduceNeg, not_true_eq_false, not_false_eq_true]
theorem s268 (F : FH hr) (hn : 775 ≤ n) {l N f : Int} {R : Int → Int} (l0 : 0 ≤ l) (l1 : l < 4) (hN : 0 ≤ N ∧ N ≤ 120) (hf : -2147483648 ≤ f) (hf' : f < 2147483648) (b1 : gA h 735 l = J N) (b3 : ∀ f, 0 ≤ f → f < N → gA h 734 (120 * l + f) = J (R f)) : Sp E 268 [.ref 704, .int (J l), .int (J f)] h hr n Q ↔ Q (some (.int (J (row N R f))), h, hr, n) := by
  by_cases g : 0 ≤ f ∧ f < N
  · have b4 := b3 f g.1 g.2
    simp +decide (maxSteps := 4000000) (disch := omega) only [k268_0, k268_1, k268_2, k268_r, k268_s, F_il1, J_ifeq, F_il2, T_I, F_al0, T_getR, X_iald, T_sub, J_ifne, T_ft, T_ret, T_mul, T_add, c219, c264, ↓s219, ↓s264, FM F, l0, show l ≤ 3 by omega, b1, b4, ln_734, ln_735, show 0 ≤ f ∧ f ≤ N - 1 by omega, TK, lt_run hn, le43, Int.le_refl, Int.lt_irrefl, Option.some.injEq, exists_eq_left', true_and, and_true, if_true, if_false, decide_eq_false_iff_not, decide_eq_true_eq, Nat.reduceAdd, Nat.reduceLeDiff, Nat.reduceLT, Int.reduceAdd, Int.reduceSub, Int.reduceMul, Int.reduceNeg, not_true_eq_false, not_false_eq_true]
    unfold row
    rw [if_pos g]
  · have e : row N R f = -1 := if_neg g
    rw [e]
    simp +decide (maxSteps := 4000000) (disch := omega) only [k268_0, k268_1, k268_2, k268_r, k268_s, F_il1, J_ifeq, F_il2, T_I, F_al0, T_getR, X_iald, T_sub, J_ifne, T_ft, T_ret, T_mul, T_add, c219, c264, ↓s219, ↓s264, FM F, l0, show l ≤ 3 by omega, b1, ln_734, ln_735, show ¬ (0 ≤ f ∧ f ≤ N - 1) by omega, TK, lt_run hn, le43, Int.le_refl, Int.lt_irrefl, Option.some.injEq, exists_eq_left', true_and, and_true, if_true, if_false, decide_eq_false_iff_not, decide_eq_true_eq, Nat.reduceAdd, Nat.reduceLeDiff, Nat.reduceLT, Int.reduceAdd, Int.reduceSub, Int.reduceMul, Int.reduceNeg, not_true_eq_false, not_false_eq_true]
theorem Pshown (F : FH hr) (hn : 775 ≤ n) (C : Cp6 h) (x y : Int32) : Pr2 E 159 268 [.int x, .int y] h hr n (Po Cp6 6 6 h hr n) := by
  have C0 := C
  obtain ⟨N, R, h1, h2, h3⟩ := C
  obtain ⟨a, ha, ha', rfl⟩ := J_of x
  obtain ⟨b, hb, hb', rfl⟩ := J_of y
  unfold Pr2
  by_cases g1 : 0 ≤ a ∧ a ≤ 3
  case neg =>
    simp +decide (maxSteps := 4000000) (disch := omega) only [k159_0, k159_1, k159_2, k159_r, k159_s, F_il1, J_ifeq, F_al0, T_getR, X_aald, F_il2, T_goto, T_I, T_ft, T_ret, c62, c158, ↓s62, ↓s158, FX F, g1, TK, lt_run hn, le43, Int.le_refl, Int.lt_irrefl, Option.some.injEq, exists_eq_left', true_and, and_true, if_true, if_false, decide_eq_false_iff_not, decide_eq_true_eq, Nat.reduceAdd, Nat.reduceLeDiff, Nat.reduceLT, Int.reduceAdd, Int.reduceSub, Int.reduceMul, Int.reduceNeg, not_true_eq_false, not_false_eq_true]
    refine ⟨_, rfl, ?_⟩
    simp +decide (maxSteps := 4000000) (disch := omega) only [k268_0, k268_1, k268_2, k268_r, k268_s, F_il1, J_ifeq, F_il2, T_I, F_al0, T_getR, X_iald, T_sub, J_ifne, T_ft, T_ret, T_mul, T_add, c219, c264, ↓s219, ↓s264, FM F, g1, TK, lt_run hn, le43, Int.le_refl, Int.lt_irrefl, Option.some.injEq, exists_eq_left', true_and, and_true, if_true, if_false, decide_eq_false_iff_not, decide_eq_true_eq, Nat.reduceAdd, Nat.reduceLeDiff, Nat.reduceLT, Int.reduceAdd, Int.reduceSub, Int.reduceMul, Int.reduceNeg, not_true_eq_false, not_false_eq_true]
    first | exact ⟨rfl, ⟨C0, Kp.refl⟩, rfl, rfl⟩ | exact ⟨⟨C0, Kp.refl⟩, rfl, rfl⟩ | exact ⟨C0, Kp.refl⟩
  have x1 := X90 E F g1.1 (show a < 4 by omega)
  obtain ⟨b1, b2, b3⟩ := h3 a g1.1 (by omega)
  simp +decide (maxSteps := 4000000) (disch := omega) only [k159_0, k159_1, k159_2, k159_r, k159_s, F_il1, J_ifeq, F_al0, T_getR, X_aald, F_il2, T_goto, T_I, T_ft, T_ret, c62, c158, ↓s158, FX F, g1, x1, kd_90, ln_90, TK, lt_run hn, le43, Int.le_refl, Int.lt_irrefl, Option.some.injEq, exists_eq_left', true_and, and_true, if_true, if_false, decide_eq_false_iff_not, decide_eq_true_eq, Nat.reduceAdd, Nat.reduceLeDiff, Nat.reduceLT, Int.reduceAdd, Int.reduceSub, Int.reduceMul, Int.reduceNeg, not_true_eq_false, not_false_eq_true]
  rw [s62 F hn (R := R a) g1.1 (by omega) (h1 a) hb hb' b1 (fun f f1 f2 => (b3 f f1 f2).1)]
  simp +decide (maxSteps := 4000000) (disch := omega) only [k159_0, k159_1, k159_2, k159_r, k159_s, F_il1, J_ifeq, F_al0, T_getR, X_aald, F_il2, T_goto, T_I, T_ft, T_ret, c62, c158, ↓s158, FX F, TK, lt_run hn, le43, Int.le_refl, Int.lt_irrefl, Option.some.injEq, exists_eq_left', true_and, and_true, if_true, if_false, decide_eq_false_iff_not, decide_eq_true_eq, Nat.reduceAdd, Nat.reduceLeDiff, Nat.reduceLT, Int.reduceAdd, Int.reduceSub, Int.reduceMul, Int.reduceNeg, not_true_eq_false, not_false_eq_true]
  refine ⟨_, rfl, ?_⟩
  rw [s268 F hn (R := R a) g1.1 (by omega) (h1 a) hb hb' b2 (fun f f1 f2 => (b3 f f1 f2).2)]
  exact ⟨rfl, ⟨C0, Kp.refl⟩, rfl, rfl⟩
/-- DEPTH -/
def Cp7 (h : AHi) : Prop := ∃ D : Int → Int, (∀ l, 16 ≤ D l ∧ D l ≤ 1024) ∧ ∀ l, 0 ≤ l → l < 4 → h (623 + 3 * l.toNat) 4 = J (D l) ∧ gA h 760 l = J (D l)
theorem Cp7.sm (C : Cp7 h) (e : Sm 7 h h') : Cp7 h' := by
  obtain ⟨D, h1, h2⟩ := C
  refine ⟨D, h1, fun l a1 a2 => ?_⟩
  rw [e _ _ (sysL4 (by omega)), e.g rfl]
  exact h2 l a1 a2
theorem Pdepth (F : FH hr) (hn : 775 ≤ n) (C : Cp7 h) (x y : Int32) : Pr2 E 186 308 [.int x, .int y] h hr n (Po Cp7 7 7 h hr n) := by
  have C0 := C
  obtain ⟨D, h1, h2⟩ := C
  obtain ⟨a, ha, ha', rfl⟩ := J_of x
  obtain ⟨b, hb, hb', rfl⟩ := J_of y
  unfold Pr2
  by_cases g1 : 0 ≤ a ∧ a ≤ 3
  case neg =>
    simp +decide (maxSteps := 4000000) (disch := omega) only [k186_0, k186_1, k186_2, k186_r, k186_s, F_il1, J_ifeq, F_il2, T_I, J_ifne, T_ft, T_ret, F_al0, T_getR, X_aald, T_getI, F_is3i, F_is3r, F_is3m, T_putI, T_putZ, F_il3, c138, c158, ↓s138, ↓s158, FX F, g1, TK, lt_run hn, le43, Int.le_refl, Int.lt_irrefl, Option.some.injEq, exists_eq_left', true_and, and_true, if_true, if_false, decide_eq_false_iff_not, decide_eq_true_eq, Nat.reduceAdd, Nat.reduceLeDiff, Nat.reduceLT, Int.reduceAdd, Int.reduceSub, Int.reduceMul, Int.reduceNeg, not_true_eq_false, not_false_eq_true]
    refine ⟨_, rfl, ?_⟩
    simp +decide (maxSteps := 4000000) (disch := omega) only [k308_0, k308_1, k308_2, k308_r, k308_s, F_il1, J_ifeq, F_il2, T_I, J_ifne, T_ft, T_ret, F_al0, T_getR, X_iald, F_is3i, F_is3r, F_is3m, T_iast, F_il3, c219, c264, ↓s219, ↓s264, FM F, g1, TK, lt_run hn, le43, Int.le_refl, Int.lt_irrefl, Option.some.injEq, exists_eq_left', true_and, and_true, if_true, if_false, decide_eq_false_iff_not, decide_eq_true_eq, Nat.reduceAdd, Nat.reduceLeDiff, Nat.reduceLT, Int.reduceAdd, Int.reduceSub, Int.reduceMul, Int.reduceNeg, not_true_eq_false, not_false_eq_true]
    first | exact ⟨rfl, ⟨C0, Kp.refl⟩, rfl, rfl⟩ | exact ⟨⟨C0, Kp.refl⟩, rfl, rfl⟩ | exact ⟨C0, Kp.refl⟩
  by_cases g2 : 16 ≤ b ∧ b ≤ 1024
  case neg =>
    simp +decide (maxSteps := 4000000) (disch := omega) only [k186_0, k186_1, k186_2, k186_r, k186_s, F_il1, J_ifeq, F_il2, T_I, J_ifne, T_ft, T_ret, F_al0, T_getR, X_aald, T_getI, F_is3i, F_is3r, F_is3m, T_putI, T_putZ, F_il3, c138, c158, ↓s138, ↓s158, FX F, g1, g2, TK, lt_run hn, le43, Int.le_refl, Int.lt_irrefl, Option.some.injEq, exists_eq_left', true_and, and_true, if_true, if_false, decide_eq_false_iff_not, decide_eq_true_eq, Nat.reduceAdd, Nat.reduceLeDiff, Nat.reduceLT, Int.reduceAdd, Int.reduceSub, Int.reduceMul, Int.reduceNeg, not_true_eq_false, not_false_eq_true]
    refine ⟨_, rfl, ?_⟩
    simp +decide (maxSteps := 4000000) (disch := omega) only [k308_0, k308_1, k308_2, k308_r, k308_s, F_il1, J_ifeq, F_il2, T_I, J_ifne, T_ft, T_ret, F_al0, T_getR, X_iald, F_is3i, F_is3r, F_is3m, T_iast, F_il3, c219, c264, ↓s219, ↓s264, FM F, g1, g2, TK, lt_run hn, le43, Int.le_refl, Int.lt_irrefl, Option.some.injEq, exists_eq_left', true_and, and_true, if_true, if_false, decide_eq_false_iff_not, decide_eq_true_eq, Nat.reduceAdd, Nat.reduceLeDiff, Nat.reduceLT, Int.reduceAdd, Int.reduceSub, Int.reduceMul, Int.reduceNeg, not_true_eq_false, not_false_eq_true]
    first | exact ⟨rfl, ⟨C0, Kp.refl⟩, rfl, rfl⟩ | exact ⟨⟨C0, Kp.refl⟩, rfl, rfl⟩ | exact ⟨C0, Kp.refl⟩
  have x1 := X90 E F g1.1 (show a < 4 by omega)
  obtain ⟨b1, b2⟩ := h2 a g1.1 (by omega)
  simp +decide (maxSteps := 4000000) (disch := omega) only [k186_0, k186_1, k186_2, k186_r, k186_s, F_il1, J_ifeq, F_il2, T_I, J_ifne, T_ft, T_ret, F_al0, T_getR, X_aald, T_getI, F_is3i, F_is3r, F_is3m, T_putI, T_putZ, F_il3, c138, c158, ↓s138, ↓s158, FX F, g1, g2, x1, b1, kd_90, ln_90, TK, lt_run hn, le43, Int.le_refl, Int.lt_irrefl, Option.some.injEq, exists_eq_left', true_and, and_true, if_true, if_false, decide_eq_false_iff_not, decide_eq_true_eq, Nat.reduceAdd, Nat.reduceLeDiff, Nat.reduceLT, Int.reduceAdd, Int.reduceSub, Int.reduceMul, Int.reduceNeg, not_true_eq_false, not_false_eq_true]
  refine ⟨_, rfl, ?_⟩
  have b3 : gA (hI h (623 + 3 * a.toNat) 4 (J b)) 760 a = J (D a) := by rw [gA_o (by omega)]; exact b2
  simp +decide (maxSteps := 4000000) (disch := omega) only [k308_0, k308_1, k308_2, k308_r, k308_s, F_il1, J_ifeq, F_il2, T_I, J_ifne, T_ft, T_ret, F_al0, T_getR, X_iald, F_is3i, F_is3r, F_is3m, T_iast, F_il3, c219, c264, ↓s219, ↓s264, FM F, g1, g2, b3, ln_760, TK, lt_run hn, le43, Int.le_refl, Int.lt_irrefl, Option.some.injEq, exists_eq_left', true_and, and_true, if_true, if_false, decide_eq_false_iff_not, decide_eq_true_eq, Nat.reduceAdd, Nat.reduceLeDiff, Nat.reduceLT, Int.reduceAdd, Int.reduceSub, Int.reduceMul, Int.reduceNeg, not_true_eq_false, not_false_eq_true]
  refine ⟨⟨⟨fun p => if p = a then b else D p, fun p => ?_, fun p p1 p2 => ?_⟩, ?_⟩, rfl, rfl⟩
  · dsimp only
    split
    · omega
    · exact h1 p
  · dsimp only
    by_cases e : p = a
    · subst e
      rw [if_pos rfl, sA_o (by omega), hI_s, gs_s]
      exact ⟨rfl, rfl⟩
    · rw [if_neg e, sA_o (by omega), hI_o (by omega), gs_k (by omega) (by omega) e, gA_o (by omega)]
      exact h2 p p1 p2
  · exact (Kp.refl.hI1 (sysL4 (by omega))).sA1 rfl
/-- WIGGLE -/
def Cp8 (h : AHi) : Prop := ∃ (S : Int → Int32) (V M : Int → Int), (∀ l, 0 ≤ V l ∧ V l ≤ 24) ∧ (∀ l, 0 ≤ M l ∧ M l ≤ 3) ∧ ∀ l, 0 ≤ l → l < 4 → (h (623 + 3 * l.toNat) 5 = S l ∧ h (623 + 3 * l.toNat) 6 = J (V l) ∧ h (623 + 3 * l.toNat) 7 = J (M l)) ∧ gA h 763 l = S l ∧ gA h 761 l = J (V l) ∧ gA h 762 l = J (M l)
theorem Cp8.sm (C : Cp8 h) (e : Sm 8 h h') : Cp8 h' := by
  obtain ⟨S, V, M, h1, h2, h3⟩ := C
  refine ⟨S, V, M, h1, h2, fun l a1 a2 => ?_⟩
  have q := sysL5 (l := l.toNat) (by omega)
  rw [e _ _ q.1, e _ _ q.2.1, e _ _ q.2.2.1, e.g rfl, e.g rfl, e.g rfl]
  exact h3 l a1 a2
theorem Pwiggle (F : FH hr) (hn : 775 ≤ n) (C : Cp8 h) (x y z w : Int32) : Pr2 E 192 314 [.int x, .int y, .int z, .int w] h hr n (Po Cp8 8 8 h hr n) := by
  have C0 := C
  obtain ⟨S, V, M, h1, h2, h3⟩ := C
  obtain ⟨a, ha, ha', rfl⟩ := J_of x
  obtain ⟨b, hb, hb', rfl⟩ := J_of z
  obtain ⟨c, hc, hc', rfl⟩ := J_of w
  unfold Pr2
  by_cases g1 : 0 ≤ a ∧ a ≤ 3
  case neg =>
    simp +decide (maxSteps := 4000000) (disch := omega) only [k192_0, k192_1, k192_2, k192_r, k192_s, F_il1, J_ifeq, F_il3, T_I, F_il4, J_ifne, T_ft, T_ret, F_al0, T_getR, X_aald, F_il2, T_putI, T_putZ, c138, c158, ↓s138, ↓s158, FX F, g1, TK, lt_run hn, le43, Int.le_refl, Int.lt_irrefl, Option.some.injEq, exists_eq_left', true_and, and_true, if_true, if_false, decide_eq_false_iff_not, decide_eq_true_eq, Nat.reduceAdd, Nat.reduceLeDiff, Nat.reduceLT, Int.reduceAdd, Int.reduceSub, Int.reduceMul, Int.reduceNeg, not_true_eq_false, not_false_eq_true]
    refine ⟨_, rfl, ?_⟩
    simp +decide (maxSteps := 4000000) (disch := omega) only [k314_0, k314_1, k314_2, k314_r, k314_s, F_il1, J_ifeq, F_il3, T_I, F_il4, J_ifne, T_ft, T_ret, F_al0, T_getR, T_iast, F_il2, c219, c264, ↓s219, ↓s264, FM F, g1, TK, lt_run hn, le43, Int.le_refl, Int.lt_irrefl, Option.some.injEq, exists_eq_left', true_and, and_true, if_true, if_false, decide_eq_false_iff_not, decide_eq_true_eq, Nat.reduceAdd, Nat.reduceLeDiff, Nat.reduceLT, Int.reduceAdd, Int.reduceSub, Int.reduceMul, Int.reduceNeg, not_true_eq_false, not_false_eq_true]
    first | exact ⟨rfl, ⟨C0, Kp.refl⟩, rfl, rfl⟩ | exact ⟨⟨C0, Kp.refl⟩, rfl, rfl⟩ | exact ⟨C0, Kp.refl⟩
  by_cases g2 : 0 ≤ b ∧ b ≤ 24
  case neg =>
    simp +decide (maxSteps := 4000000) (disch := omega) only [k192_0, k192_1, k192_2, k192_r, k192_s, F_il1, J_ifeq, F_il3, T_I, F_il4, J_ifne, T_ft, T_ret, F_al0, T_getR, X_aald, F_il2, T_putI, T_putZ, c138, c158, ↓s138, ↓s158, FX F, g1, g2, TK, lt_run hn, le43, Int.le_refl, Int.lt_irrefl, Option.some.injEq, exists_eq_left', true_and, and_true, if_true, if_false, decide_eq_false_iff_not, decide_eq_true_eq, Nat.reduceAdd, Nat.reduceLeDiff, Nat.reduceLT, Int.reduceAdd, Int.reduceSub, Int.reduceMul, Int.reduceNeg, not_true_eq_false, not_false_eq_true]
    refine ⟨_, rfl, ?_⟩
    simp +decide (maxSteps := 4000000) (disch := omega) only [k314_0, k314_1, k314_2, k314_r, k314_s, F_il1, J_ifeq, F_il3, T_I, F_il4, J_ifne, T_ft, T_ret, F_al0, T_getR, T_iast, F_il2, c219, c264, ↓s219, ↓s264, FM F, g1, g2, TK, lt_run hn, le43, Int.le_refl, Int.lt_irrefl, Option.some.injEq, exists_eq_left', true_and, and_true, if_true, if_false, decide_eq_false_iff_not, decide_eq_true_eq, Nat.reduceAdd, Nat.reduceLeDiff, Nat.reduceLT, Int.reduceAdd, Int.reduceSub, Int.reduceMul, Int.reduceNeg, not_true_eq_false, not_false_eq_true]
    first | exact ⟨rfl, ⟨C0, Kp.refl⟩, rfl, rfl⟩ | exact ⟨⟨C0, Kp.refl⟩, rfl, rfl⟩ | exact ⟨C0, Kp.refl⟩
  by_cases g3 : 0 ≤ c ∧ c ≤ 3
  case neg =>
    simp +decide (maxSteps := 4000000) (disch := omega) only [k192_0, k192_1, k192_2, k192_r, k192_s, F_il1, J_ifeq, F_il3, T_I, F_il4, J_ifne, T_ft, T_ret, F_al0, T_getR, X_aald, F_il2, T_putI, T_putZ, c138, c158, ↓s138, ↓s158, FX F, g1, g2, g3, TK, lt_run hn, le43, Int.le_refl, Int.lt_irrefl, Option.some.injEq, exists_eq_left', true_and, and_true, if_true, if_false, decide_eq_false_iff_not, decide_eq_true_eq, Nat.reduceAdd, Nat.reduceLeDiff, Nat.reduceLT, Int.reduceAdd, Int.reduceSub, Int.reduceMul, Int.reduceNeg, not_true_eq_false, not_false_eq_true]
    refine ⟨_, rfl, ?_⟩
    simp +decide (maxSteps := 4000000) (disch := omega) only [k314_0, k314_1, k314_2, k314_r, k314_s, F_il1, J_ifeq, F_il3, T_I, F_il4, J_ifne, T_ft, T_ret, F_al0, T_getR, T_iast, F_il2, c219, c264, ↓s219, ↓s264, FM F, g1, g2, g3, TK, lt_run hn, le43, Int.le_refl, Int.lt_irrefl, Option.some.injEq, exists_eq_left', true_and, and_true, if_true, if_false, decide_eq_false_iff_not, decide_eq_true_eq, Nat.reduceAdd, Nat.reduceLeDiff, Nat.reduceLT, Int.reduceAdd, Int.reduceSub, Int.reduceMul, Int.reduceNeg, not_true_eq_false, not_false_eq_true]
    first | exact ⟨rfl, ⟨C0, Kp.refl⟩, rfl, rfl⟩ | exact ⟨⟨C0, Kp.refl⟩, rfl, rfl⟩ | exact ⟨C0, Kp.refl⟩
  have x1 := X90 E F g1.1 (show a < 4 by omega)
  simp +decide (maxSteps := 4000000) (disch := omega) only [k192_0, k192_1, k192_2, k192_r, k192_s, F_il1, J_ifeq, F_il3, T_I, F_il4, J_ifne, T_ft, T_ret, F_al0, T_getR, X_aald, F_il2, T_putI, T_putZ, c138, c158, ↓s138, ↓s158, FX F, g1, g2, g3, x1, kd_90, ln_90, TK, lt_run hn, le43, Int.le_refl, Int.lt_irrefl, Option.some.injEq, exists_eq_left', true_and, and_true, if_true, if_false, decide_eq_false_iff_not, decide_eq_true_eq, Nat.reduceAdd, Nat.reduceLeDiff, Nat.reduceLT, Int.reduceAdd, Int.reduceSub, Int.reduceMul, Int.reduceNeg, not_true_eq_false, not_false_eq_true]
  refine ⟨_, rfl, ?_⟩
  simp +decide (maxSteps := 4000000) (disch := omega) only [k314_0, k314_1, k314_2, k314_r, k314_s, F_il1, J_ifeq, F_il3, T_I, F_il4, J_ifne, T_ft, T_ret, F_al0, T_getR, T_iast, F_il2, c219, c264, ↓s219, ↓s264, FM F, g1, g2, g3, ln_761, ln_762, ln_763, TK, lt_run hn, le43, Int.le_refl, Int.lt_irrefl, Option.some.injEq, exists_eq_left', true_and, and_true, if_true, if_false, decide_eq_false_iff_not, decide_eq_true_eq, Nat.reduceAdd, Nat.reduceLeDiff, Nat.reduceLT, Int.reduceAdd, Int.reduceSub, Int.reduceMul, Int.reduceNeg, not_true_eq_false, not_false_eq_true]
  refine ⟨⟨⟨fun p => if p = a then y else S p, fun p => if p = a then b else V p, fun p => if p = a then c else M p, fun p => ?_, fun p => ?_, fun p p1 p2 => ?_⟩, ?_⟩, rfl, rfl⟩
  · dsimp only
    split
    · omega
    · exact h1 p
  · dsimp only
    split
    · omega
    · exact h2 p
  · dsimp only
    have h4 := h3 p p1 p2
    rw [sA_o (by omega), sA_o (by omega), sA_o (by omega)]
    by_cases e : p = a
    · subst e
      rw [if_pos rfl, if_pos rfl, if_pos rfl, hI_k (by decide), hI_k (by decide), hI_s, hI_k (by decide), hI_s, hI_s, gs_o (by decide), gs_s, gs_o (by decide), gs_o (by decide), gs_s, gs_s]
      exact ⟨⟨rfl, rfl, rfl⟩, rfl, rfl, rfl⟩
    · rw [if_neg e, if_neg e, if_neg e, hI_o (by omega), hI_o (by omega), hI_o (by omega), gs_o (by decide), gs_k (by omega) (by omega) e, gs_o (by decide), gs_o (by decide), gs_o (by decide), gs_k (by omega) (by omega) e, gs_k (by omega) (by omega) e, gs_o (by decide), gs_o (by decide), gA_o (by omega), gA_o (by omega), gA_o (by omega), gA_o (by omega), gA_o (by omega), gA_o (by omega), gA_o (by omega), gA_o (by omega), gA_o (by omega)]
      exact h4
  · have q := sysL5 (l := a.toNat) (by omega)
    exact ((((((Kp.refl.hI1 q.1).hI1 q.2.1).hI1 q.2.2.1).sA1 rfl).sA1 rfl).sA1 rfl)
end SM
