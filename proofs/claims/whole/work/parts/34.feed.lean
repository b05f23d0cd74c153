/-! feed, end, out -/
/-- two calls, one behind the other, with one answer -/
def Pr2 (E : AEn) (mC mM : Nat) (as : List Value) (h : AHi) (hr : AHr) (n : Nat) (P : AHi → AHr → Nat → Prop) : Prop := Sp E mC (.ref 43 :: as) h hr n (fun r => ∃ v, r.1 = some (.int v) ∧ Sp E mM (.ref 704 :: as) r.2.1 r.2.2.1 r.2.2.2 (fun q => q.1 = some (.int v) ∧ P q.2.1 q.2.2.1 q.2.2.2))
/-- nothing changed but in S -/
def Ef (S : Nat → Nat → Prop) (h h' : AHi) : Prop := ∀ a k, ¬ S a k → h' a k = h a k
theorem Ef.refl {S : Nat → Nat → Prop} {h : AHi} : Ef S h h := fun _ _ _ => rfl
theorem Ef.trans {S : Nat → Nat → Prop} {h h' h'' : AHi} (e : Ef S h h') (e' : Ef S h' h'') : Ef S h h'' := fun a k q => (e' a k q).trans (e a k q)
theorem Ef.mono {S S' : Nat → Nat → Prop} {h h' : AHi} (e : Ef S h h') (hs : ∀ a k, S a k → S' a k) : Ef S' h h' := fun a k q => e a k (fun q' => q (hs a k q'))
theorem Ef.hI {S : Nat → Nat → Prop} {h h' : AHi} {a k : Nat} {v : Int32} (e : Ef S h h') (hs : S a k) : Ef S h (hI h' a k v) := by
  intro x y q
  rw [← e x y q]
  by_cases e1 : x = a
  · subst e1
    by_cases e2 : y = k
    · subst e2
      exact absurd hs q
    · exact hI_k e2
  · rw [hI_o e1]
theorem Ef.sA {S : Nat → Nat → Prop} {h h' : AHi} {a : Nat} {i : Int} {v : Int32} (e : Ef S h h') (hs : S a i.toNat) : Ef S h (sA h' a i v) := Ef.hI e hs
theorem Ef.g {S : Nat → Nat → Prop} {h h' : AHi} (e : Ef S h h') {a : Nat} {i : Int} (hs : ¬ S a i.toNat) : gA h' a i = gA h a i := e _ _ hs
theorem BC_ext {h : AHi} {o r : Nat} {t : Int} {b : Int → Int} {w : Int32} (B : BC h o r t b) (hne : o ≠ r) (h0 : 0 ≤ t) (hv : a_byte w = a_byte (J (b t))) : BC (hI (sA h r t (a_byte w)) o 1 (J (t + 1))) o r (t + 1) b := by
  refine ⟨hI_s, fun i hi1 hi2 => ?_⟩
  rw [gA_o (Ne.symm hne)]
  by_cases e : i = t
  · rw [e, gs_s, hv]
  · rw [gs_k h0 hi1 e]
    exact B.2 i hi1 (by omega)
theorem BC_cong {h : AHi} {o r : Nat} {t : Int} {b b' : Int → Int} (B : BC h o r t b) (e : ∀ i, 0 ≤ i → i < t → b' i = b i) : BC h o r t b' := ⟨B.1, fun i h1 h2 => by rw [e i h1 h2]; exact B.2 i h1 h2⟩
/-- a byte of an int -/
def byt (v : Int32) (s : Int) : Int := ((v >>> (J s &&& 31)) &&& J 255).toInt
theorem byt_J (v : Int32) (s : Int) : J (byt v s) = (v >>> (J s &&& 31)) &&& J 255 := J_self _
theorem byt_r (v : Int32) (s : Int) : 0 ≤ byt v s ∧ byt v s ≤ 255 := by
  obtain ⟨x, h1, h2, h3⟩ := and255 (v >>> (J s &&& 31))
  unfold byt
  rw [h3, J_toInt (by omega) (by omega)]
  exact ⟨h1, h2⟩
theorem byt_u24 (v : Int32) : a_byte (a_ushr v (J 24)) = a_byte (J (byt v 24)) := by rw [byt_J, byte_mask]; exact byte_ushr v (J 24) 24 (by decide) (by decide +kernel) (by decide +kernel)
theorem byt_u16 (v : Int32) : a_byte (a_ushr v (J 16)) = a_byte (J (byt v 16)) := by rw [byt_J, byte_mask]; exact byte_ushr v (J 16) 16 (by decide) (by decide +kernel) (by decide +kernel)
theorem byt_u8 (v : Int32) : a_byte (a_ushr v (J 8)) = a_byte (J (byt v 8)) := by rw [byt_J, byte_mask]; exact byte_ushr v (J 8) 8 (by decide) (by decide +kernel) (by decide +kernel)
theorem byt_u0 (v : Int32) : a_byte v = a_byte (J (byt v 0)) := by
  rw [byt_J, byte_mask]
  have h := byte_ushr v (J 0) 0 (by decide) (by decide +kernel) (by decide +kernel)
  rw [← h]
  refine congrArg a_byte ?_
  unfold a_ushr
  rw [← Int32.toBitVec_inj]
  show v.toBitVec = _
  have : ((v.toUInt32 >>> ((J 0).toUInt32 &&& Int32.toUInt32 31)).toInt32.toBitVec) = v.toBitVec >>> 0 := by
    rw [show (0 : Nat) = (((J 0).toUInt32 &&& Int32.toUInt32 31).toBitVec % 32).toNat from by decide +kernel]
    exact UInt32.toBitVec_shiftRight _ _
  rw [this]
  simp
/-- the tape of both -/
def SFd (a k : Nat) : Prop := (a = 44 ∧ k = 1) ∨ a = 45
section FE
variable {E : AEn} {h : AHi} {hr : AHr} {n : Nat} {Q : ARs → Prop} {t : Int} {b : Int → Int}
theorem w10 (F : FH hr) (hn : 775 ≤ n) {v : Int32} (B : BC h 44 45 t b) (h0 : 0 ≤ t) (h1 : t + 4 ≤ 1600) (b0 : b t = byt v 24) (b1 : b (t + 1) = byt v 16) (b2 : b (t + 1 + 1) = byt v 8) (b3 : b (t + 1 + 1 + 1) = byt v 0)
    (k : ∀ h', BC h' 44 45 (t + 4) b → Ef SFd h h' → Q (none, h', hr, n)) : Sp E 10 [.ref 44, .int v] h hr n Q := by
  have O := Ob_tape (E := E) F hn
  have B1 := BC_ext (w := a_ushr v (J 24)) B O.2.2.2.2.2.2.2.2.2.2 h0 (by rw [b0]; exact byt_u24 v)
  have B2 := BC_ext (w := a_ushr v (J 16)) B1 O.2.2.2.2.2.2.2.2.2.2 (by omega) (by rw [b1]; exact byt_u16 v)
  have B3 := BC_ext (w := a_ushr v (J 8)) B2 O.2.2.2.2.2.2.2.2.2.2 (by omega) (by rw [b2]; exact byt_u8 v)
  have B4 := BC_ext (w := v) B3 O.2.2.2.2.2.2.2.2.2.2 (by omega) (by rw [b3]; exact byt_u0 v)
  simp +decide (maxSteps := 4000000) (disch := omega) only [k10_0, k10_r, k10_s, F_al0, F_il1, T_I, T_ushr, T_ret, c11, TK, lt_run hn, Option.some.injEq, exists_eq_left', true_and, and_true, if_true, if_false, decide_eq_false_iff_not, decide_eq_true_eq, Nat.reduceAdd, Nat.reduceLeDiff, Nat.reduceLT, Int.reduceAdd, Int.reduceSub, Int.reduceMul, Int.reduceNeg, not_true_eq_false, not_false_eq_true]
  rw [s11 O _ B.1 (by omega) (by omega)]
  simp +decide (maxSteps := 4000000) (disch := omega) only [k10_0, k10_r, k10_s, F_al0, F_il1, T_I, T_ushr, T_ret, c11, TK, lt_run hn, Option.some.injEq, exists_eq_left', true_and, and_true, if_true, if_false, decide_eq_false_iff_not, decide_eq_true_eq, Nat.reduceAdd, Nat.reduceLeDiff, Nat.reduceLT, Int.reduceAdd, Int.reduceSub, Int.reduceMul, Int.reduceNeg, not_true_eq_false, not_false_eq_true]
  rw [s11 O _ B1.1 (by omega) (by omega)]
  simp +decide (maxSteps := 4000000) (disch := omega) only [k10_0, k10_r, k10_s, F_al0, F_il1, T_I, T_ushr, T_ret, c11, TK, lt_run hn, Option.some.injEq, exists_eq_left', true_and, and_true, if_true, if_false, decide_eq_false_iff_not, decide_eq_true_eq, Nat.reduceAdd, Nat.reduceLeDiff, Nat.reduceLT, Int.reduceAdd, Int.reduceSub, Int.reduceMul, Int.reduceNeg, not_true_eq_false, not_false_eq_true]
  rw [s11 O _ B2.1 (by omega) (by omega)]
  simp +decide (maxSteps := 4000000) (disch := omega) only [k10_0, k10_r, k10_s, F_al0, F_il1, T_I, T_ushr, T_ret, c11, TK, lt_run hn, Option.some.injEq, exists_eq_left', true_and, and_true, if_true, if_false, decide_eq_false_iff_not, decide_eq_true_eq, Nat.reduceAdd, Nat.reduceLeDiff, Nat.reduceLT, Int.reduceAdd, Int.reduceSub, Int.reduceMul, Int.reduceNeg, not_true_eq_false, not_false_eq_true]
  rw [s11 O _ B3.1 (by omega) (by omega)]
  simp +decide (maxSteps := 4000000) (disch := omega) only [k10_0, k10_r, k10_s, F_al0, F_il1, T_I, T_ushr, T_ret, c11, TK, lt_run hn, Option.some.injEq, exists_eq_left', true_and, and_true, if_true, if_false, decide_eq_false_iff_not, decide_eq_true_eq, Nat.reduceAdd, Nat.reduceLeDiff, Nat.reduceLT, Int.reduceAdd, Int.reduceSub, Int.reduceMul, Int.reduceNeg, not_true_eq_false, not_false_eq_true]
  refine k _ (by rw [show t + 4 = t + 1 + 1 + 1 + 1 by omega]; exact B4) ?_
  have e1 : SFd 44 1 := Or.inl ⟨rfl, rfl⟩
  have e2 : ∀ k, SFd 45 k := fun k => Or.inr rfl
  exact (((((((Ef.refl.sA (e2 _)).hI e1).sA (e2 _)).hI e1).sA (e2 _)).hI e1).sA (e2 _)).hI e1
/-- the tapes hold the same -/
def CpT (h : AHi) : Prop := ∃ t b, TpC h t b ∧ h 704 2 = J t ∧ ∀ i, 0 ≤ i → i < t → gA h 705 i = J (b i)
def nb (a b c d e : Int32) (j : Int) : Int := byt (if j < 4 then a else if j < 8 then b else if j < 12 then c else if j < 16 then d else e) (24 - 8 * (j % 4))
def SFe (a k : Nat) : Prop := (a = 44 ∧ k = 1) ∨ a = 45 ∨ (a = 704 ∧ k = 2) ∨ a = 705
theorem z213 (F : FH hr) (hn : 775 ≤ n) {a b c d e : Int32} {v7 : Value} (h0 : 0 ≤ t ∧ t ≤ 1580) : ∀ (q : Nat) (h : AHi) (v7 : Value), q ≤ 20 → h 704 2 = J t →
    (∀ h', (∀ i, 0 ≤ i → i < t + 20 → gA h' 705 i = if i < t + (20 - q) then gA h 705 i else J (nb a b c d e (i - t))) → Ef (fun a _ => a = 705) h h' → Q (some (.int (J (t + 20))), hI h' 704 2 (J (t + 20)), hr, n)) →
    Tm E 213 (a_bl 213 2) [.ref 704, .int a, .int b, .int c, .int d, .int e, .int (J (20 - q)), v7] [] h hr n Q := by
  intro q
  induction q with
  | zero =>
    intro h v7 _ ht k
    rw [k213_2]
    simp +decide (maxSteps := 4000000) (disch := omega) only [k213_0, k213_1, k213_3, k213_4, k213_5, k213_6, k213_7, k213_8, k213_r, k213_s, F_al0, T_getI, T_I, T_icle, T_ret, F_is6i, F_is6r, F_is6m, T_ft, F_il6, T_icge, F_il1, T_goto, F_il2, F_il3, F_il4, F_il5, F_is7i, F_is7r, F_is7m, T_getR, T_add, F_il7, T_rem, T_mul, T_sub, T_shr, T_and, T_iast, F_inc6i, F_inc6r, F_inc6m, T_dupI, T_dupR, T_putI, T_putZ, FM F, ht, hI_s, TK, lt_run hn, Option.some.injEq, exists_eq_left', true_and, and_true, if_true, if_false, decide_eq_false_iff_not, decide_eq_true_eq, Nat.reduceAdd, Nat.reduceLeDiff, Nat.reduceLT, Int.reduceAdd, Int.reduceSub, Int.reduceMul, Int.reduceNeg, not_true_eq_false, not_false_eq_true]
    exact k h (fun i h1 h2 => by rw [if_pos (by omega)]) Ef.refl
  | succ q ih =>
    intro h v7 hq ht k
    have key : ∀ v : Int32, v = (if (20 : Int) - ((q + 1 : Nat) : Int) < 4 then a else if (20 : Int) - ((q + 1 : Nat) : Int) < 8 then b else if (20 : Int) - ((q + 1 : Nat) : Int) < 12 then c else if (20 : Int) - ((q + 1 : Nat) : Int) < 16 then d else e) → Tm E 213 (a_bl 213 7) [.ref 704, .int a, .int b, .int c, .int d, .int e, .int (J (20 - ((q + 1 : Nat) : Int))), v7] [.int v] h hr n Q := by
      intro v hv
      simp +decide (maxSteps := 4000000) (disch := omega) only [k213_0, k213_1, k213_3, k213_4, k213_5, k213_6, k213_7, k213_8, k213_r, k213_s, F_al0, T_getI, T_I, T_icle, T_ret, F_is6i, F_is6r, F_is6m, T_ft, F_il6, T_icge, F_il1, T_goto, F_il2, F_il3, F_il4, F_il5, F_is7i, F_is7r, F_is7m, T_getR, T_add, F_il7, T_rem, T_mul, T_sub, T_shr, T_and, T_iast, F_inc6i, F_inc6r, F_inc6m, T_dupI, T_dupR, T_putI, T_putZ, FM F, ln_705, J_remp, ht, TK, lt_run hn, Option.some.injEq, exists_eq_left', true_and, and_true, if_true, if_false, decide_eq_false_iff_not, decide_eq_true_eq, Nat.reduceAdd, Nat.reduceLeDiff, Nat.reduceLT, Int.reduceAdd, Int.reduceSub, Int.reduceMul, Int.reduceNeg, not_true_eq_false, not_false_eq_true]
      have ev : (v >>> (J (24 - 8 * ((20 - ((q + 1 : Nat) : Int)) % 4)) &&& 31)) &&& J 255 = J (nb a b c d e (20 - ((q + 1 : Nat) : Int))) := by
        unfold nb
        rw [byt_J, hv]
      rw [ev, show (20 : Int) - ((q + 1 : Nat) : Int) + 1 = 20 - (q : Nat) by omega]
      refine ih _ _ (by omega) (by rw [sA_o (by decide)]; exact ht) (fun h' k1 k2 => k h' (fun i i1 i2 => ?_) (fun x y hx => (k2 x y hx).trans (by rw [sA_o hx])))
      rw [k1 i i1 i2]
      by_cases c1 : i < t + (20 - ((q + 1 : Nat) : Int))
      · rw [if_pos c1, if_pos (by omega), gs_k (by omega) (by omega) (by omega)]
      · rw [if_neg c1]
        by_cases c2 : i < t + (20 - (q : Nat))
        · have c3 : i = t + (20 - ((q + 1 : Nat) : Int)) := by omega
          rw [if_pos c2, c3, gs_s, show t + (20 - ((q + 1 : Nat) : Int)) - t = 20 - ((q + 1 : Nat) : Int) by omega]
        · rw [if_neg c2]
    rw [k213_2]
    simp +decide (maxSteps := 4000000) (disch := omega) only [k213_0, k213_1, k213_3, k213_4, k213_5, k213_6, k213_8, k213_r, k213_s, F_al0, T_getI, T_I, T_icle, T_ret, F_is6i, F_is6r, F_is6m, T_ft, F_il6, T_icge, F_il1, T_goto, F_il2, F_il3, F_il4, F_il5, F_is7i, F_is7r, F_is7m, T_getR, T_add, F_il7, T_rem, T_mul, T_sub, T_shr, T_and, T_iast, F_inc6i, F_inc6r, F_inc6m, T_dupI, T_dupR, T_putI, T_putZ, show ¬ (20 : Int) ≤ 20 - ((q + 1 : Nat) : Int) by omega, TK, lt_run hn, Option.some.injEq, exists_eq_left', true_and, and_true, if_true, if_false, decide_eq_false_iff_not, decide_eq_true_eq, Nat.reduceAdd, Nat.reduceLeDiff, Nat.reduceLT, Int.reduceAdd, Int.reduceSub, Int.reduceMul, Int.reduceNeg, not_true_eq_false, not_false_eq_true]
    by_cases c1 : (20 : Int) - ((q + 1 : Nat) : Int) < 4
    · rw [if_neg (by omega)]
      exact key _ (by rw [if_pos c1])
    · rw [if_pos (by omega)]
      by_cases c2 : (20 : Int) - ((q + 1 : Nat) : Int) < 8
      · rw [if_neg (by omega)]
        exact key _ (by rw [if_neg c1, if_pos c2])
      · rw [if_pos (by omega)]
        by_cases c3 : (20 : Int) - ((q + 1 : Nat) : Int) < 12
        · rw [if_neg (by omega)]
          exact key _ (by rw [if_neg c1, if_neg c2, if_pos c3])
        · rw [if_pos (by omega)]
          by_cases c4 : (20 : Int) - ((q + 1 : Nat) : Int) < 16
          · rw [if_neg (by omega)]
            exact key _ (by rw [if_neg c1, if_neg c2, if_neg c3, if_pos c4])
          · rw [if_pos (by omega)]
            exact key _ (by rw [if_neg c1, if_neg c2, if_neg c3, if_neg c4])
theorem Pfeed (F : FH hr) (hn : 775 ≤ n) (C : CpT h) (a b c d e : Int32) : Pr2 E 133 213 [.int a, .int b, .int c, .int d, .int e] h hr n (fun h' hr' n' => (CpT h' ∧ Ef SFe h h') ∧ hr' = hr ∧ n' = n) := by
  obtain ⟨t, bb, T, m1, m2⟩ := C
  have O := Ob_tape (E := E) F hn
  have t1 := T.1
  have B := T.2.2
  unfold Pr2
  simp +decide (maxSteps := 4000000) (disch := omega) only [k133_0, k133_1, k133_r, k133_s, F_al0, T_getR, T_I, J_ifne, T_ret, F_il1, F_il2, F_il3, F_il4, F_il5, T_getI, c9, c10, FX F, ↓s9 O B.1, TK, lt_run hn, Option.some.injEq, exists_eq_left', true_and, and_true, if_true, if_false, decide_eq_false_iff_not, decide_eq_true_eq, Nat.reduceAdd, Nat.reduceLeDiff, Nat.reduceLT, Int.reduceAdd, Int.reduceSub, Int.reduceMul, Int.reduceNeg, not_true_eq_false, not_false_eq_true]
  by_cases c0 : t + 20 ≤ 1600
  · rw [if_neg (fun q => q c0)]
    let b' : Int → Int := fun i => if i < t then bb i else nb a b c d e (i - t)
    have hb' : ∀ j, 0 ≤ j → b' (t + j) = nb a b c d e j := fun j hj => by
      show (if t + j < t then _ else _) = _
      rw [if_neg (by omega), show t + j - t = j by omega]
    have B0 : BC h 44 45 t b' := BC_cong B (fun i _ h2 => if_pos h2)
    have bval : ∀ j s v, 0 ≤ j → (if j < 4 then a else if j < 8 then b else if j < 12 then c else if j < 16 then d else e) = v → 24 - 8 * (j % 4) = s → b' (t + j) = byt v s := fun j s v h0 h1 h2 => by
      rw [hb' j h0]
      unfold nb
      rw [h1, h2]
    refine w10 F hn B0 (by omega) (by omega) (by rw [← Int.add_zero t]; exact bval 0 24 a (by decide) rfl rfl) (bval 1 16 a (by decide) rfl rfl) (by rw [Int.add_assoc]; exact bval 2 8 a (by decide) rfl rfl) (by rw [Int.add_assoc, Int.add_assoc]; exact bval 3 0 a (by decide) rfl rfl) (fun h1 B1 e1 => ?_)
    simp +decide (maxSteps := 4000000) (disch := omega) only [k133_0, k133_1, k133_r, k133_s, F_al0, T_getR, T_I, J_ifne, T_ret, F_il1, F_il2, F_il3, F_il4, F_il5, T_getI, c9, c10, FX F, TK, lt_run hn, Option.some.injEq, exists_eq_left', true_and, and_true, if_true, if_false, decide_eq_false_iff_not, decide_eq_true_eq, Nat.reduceAdd, Nat.reduceLeDiff, Nat.reduceLT, Int.reduceAdd, Int.reduceSub, Int.reduceMul, Int.reduceNeg, not_true_eq_false, not_false_eq_true]
    refine w10 F hn B1 (by omega) (by omega) (bval 4 24 b (by decide) rfl rfl) (by rw [Int.add_assoc]; exact bval 5 16 b (by decide) rfl rfl) (by rw [Int.add_assoc, Int.add_assoc]; exact bval 6 8 b (by decide) rfl rfl) (by rw [Int.add_assoc, Int.add_assoc, Int.add_assoc]; exact bval 7 0 b (by decide) rfl rfl) (fun h2 B2 e2 => ?_)
    rw [show t + 4 + 4 = t + 8 by omega] at B2
    simp +decide (maxSteps := 4000000) (disch := omega) only [k133_0, k133_1, k133_r, k133_s, F_al0, T_getR, T_I, J_ifne, T_ret, F_il1, F_il2, F_il3, F_il4, F_il5, T_getI, c9, c10, FX F, TK, lt_run hn, Option.some.injEq, exists_eq_left', true_and, and_true, if_true, if_false, decide_eq_false_iff_not, decide_eq_true_eq, Nat.reduceAdd, Nat.reduceLeDiff, Nat.reduceLT, Int.reduceAdd, Int.reduceSub, Int.reduceMul, Int.reduceNeg, not_true_eq_false, not_false_eq_true]
    refine w10 F hn B2 (by omega) (by omega) (bval 8 24 c (by decide) rfl rfl) (by rw [Int.add_assoc]; exact bval 9 16 c (by decide) rfl rfl) (by rw [Int.add_assoc, Int.add_assoc]; exact bval 10 8 c (by decide) rfl rfl) (by rw [Int.add_assoc, Int.add_assoc, Int.add_assoc]; exact bval 11 0 c (by decide) rfl rfl) (fun h3 B3 e3 => ?_)
    rw [show t + 8 + 4 = t + 12 by omega] at B3
    simp +decide (maxSteps := 4000000) (disch := omega) only [k133_0, k133_1, k133_r, k133_s, F_al0, T_getR, T_I, J_ifne, T_ret, F_il1, F_il2, F_il3, F_il4, F_il5, T_getI, c9, c10, FX F, TK, lt_run hn, Option.some.injEq, exists_eq_left', true_and, and_true, if_true, if_false, decide_eq_false_iff_not, decide_eq_true_eq, Nat.reduceAdd, Nat.reduceLeDiff, Nat.reduceLT, Int.reduceAdd, Int.reduceSub, Int.reduceMul, Int.reduceNeg, not_true_eq_false, not_false_eq_true]
    refine w10 F hn B3 (by omega) (by omega) (bval 12 24 d (by decide) rfl rfl) (by rw [Int.add_assoc]; exact bval 13 16 d (by decide) rfl rfl) (by rw [Int.add_assoc, Int.add_assoc]; exact bval 14 8 d (by decide) rfl rfl) (by rw [Int.add_assoc, Int.add_assoc, Int.add_assoc]; exact bval 15 0 d (by decide) rfl rfl) (fun h4 B4 e4 => ?_)
    rw [show t + 12 + 4 = t + 16 by omega] at B4
    simp +decide (maxSteps := 4000000) (disch := omega) only [k133_0, k133_1, k133_r, k133_s, F_al0, T_getR, T_I, J_ifne, T_ret, F_il1, F_il2, F_il3, F_il4, F_il5, T_getI, c9, c10, FX F, TK, lt_run hn, Option.some.injEq, exists_eq_left', true_and, and_true, if_true, if_false, decide_eq_false_iff_not, decide_eq_true_eq, Nat.reduceAdd, Nat.reduceLeDiff, Nat.reduceLT, Int.reduceAdd, Int.reduceSub, Int.reduceMul, Int.reduceNeg, not_true_eq_false, not_false_eq_true]
    refine w10 F hn B4 (by omega) (by omega) (bval 16 24 e (by decide) rfl rfl) (by rw [Int.add_assoc]; exact bval 17 16 e (by decide) rfl rfl) (by rw [Int.add_assoc, Int.add_assoc]; exact bval 18 8 e (by decide) rfl rfl) (by rw [Int.add_assoc, Int.add_assoc, Int.add_assoc]; exact bval 19 0 e (by decide) rfl rfl) (fun h5 B5 e5 => ?_)
    rw [show t + 16 + 4 = t + 20 by omega] at B5
    have b51 := B5.1
    simp +decide (maxSteps := 4000000) (disch := omega) only [k133_0, k133_1, k133_r, k133_s, F_al0, T_getR, T_I, J_ifne, T_ret, F_il1, F_il2, F_il3, F_il4, F_il5, T_getI, c9, c10, FX F, b51, TK, lt_run hn, Option.some.injEq, exists_eq_left', true_and, and_true, if_true, if_false, decide_eq_false_iff_not, decide_eq_true_eq, Nat.reduceAdd, Nat.reduceLeDiff, Nat.reduceLT, Int.reduceAdd, Int.reduceSub, Int.reduceMul, Int.reduceNeg, not_true_eq_false, not_false_eq_true]
    refine ⟨_, rfl, ?_⟩
    have ee : Ef SFd h h5 := ((((e1.trans e2).trans e3).trans e4).trans e5)
    have m1' : h5 704 2 = J t := by rw [ee 704 2 (fun q => by unfold SFd at q; omega)]; exact m1
    simp +decide (maxSteps := 4000000) (disch := omega) only [k213_0, k213_1, k213_3, k213_4, k213_5, k213_6, k213_7, k213_8, k213_r, k213_s, F_al0, T_getI, T_I, T_icle, T_ret, F_is6i, F_is6r, F_is6m, T_ft, F_il6, T_icge, F_il1, T_goto, F_il2, F_il3, F_il4, F_il5, F_is7i, F_is7r, F_is7m, T_getR, T_add, F_il7, T_rem, T_mul, T_sub, T_shr, T_and, T_iast, F_inc6i, F_inc6r, F_inc6m, T_dupI, T_dupR, T_putI, T_putZ, FM F, m1', TK, lt_run hn, Option.some.injEq, exists_eq_left', true_and, and_true, if_true, if_false, decide_eq_false_iff_not, decide_eq_true_eq, Nat.reduceAdd, Nat.reduceLeDiff, Nat.reduceLT, Int.reduceAdd, Int.reduceSub, Int.reduceMul, Int.reduceNeg, not_true_eq_false, not_false_eq_true]
    rw [if_pos (by omega)]
    refine z213 (v7 := a_mk) F hn (by omega) 20 h5 _ (Nat.le_refl _) m1' (fun h6 k1 k2 => ?_)
    dsimp only
    refine ⟨rfl, ⟨⟨t + 20, b', ⟨by omega, fun i => ?_, ?_⟩, ?_, ?_⟩, ?_⟩, rfl, rfl⟩
    · show 0 ≤ (if i < t then bb i else nb a b c d e (i - t)) ∧ (if i < t then bb i else nb a b c d e (i - t)) ≤ 255
      split
      · exact T.2.1 i
      · exact byt_r _ _
    · refine ⟨?_, fun i i1 i2 => ?_⟩
      · rw [hI_o (by decide), k2 44 1 (by decide)]
        exact B5.1
      · rw [gA_o (by decide), k2.g (by decide)]
        exact B5.2 i i1 i2
    · exact hI_s
    · intro i i1 i2
      rw [gA_o (by decide), k1 i i1 i2]
      show _ = J (if i < t then bb i else nb a b c d e (i - t))
      by_cases c1 : i < t
      · rw [if_pos (by omega), if_pos c1, ee.g (fun q => by unfold SFd at q; omega)]
        exact m2 i i1 c1
      · rw [if_neg (by omega), if_neg c1]
    · refine Ef.hI (Ef.trans (ee.mono fun x y q => ?_) (k2.mono fun x y q => ?_)) (Or.inr (Or.inr (Or.inl ⟨rfl, rfl⟩)))
      · unfold SFd at q
        unfold SFe
        omega
      · exact Or.inr (Or.inr (Or.inr q))
  · rw [if_pos c0]
    refine ⟨_, rfl, ?_⟩
    simp +decide (maxSteps := 4000000) (disch := omega) only [k213_0, k213_1, k213_3, k213_4, k213_5, k213_6, k213_7, k213_8, k213_r, k213_s, F_al0, T_getI, T_I, T_icle, T_ret, F_is6i, F_is6r, F_is6m, T_ft, F_il6, T_icge, F_il1, T_goto, F_il2, F_il3, F_il4, F_il5, F_is7i, F_is7r, F_is7m, T_getR, T_add, F_il7, T_rem, T_mul, T_sub, T_shr, T_and, T_iast, F_inc6i, F_inc6r, F_inc6m, T_dupI, T_dupR, T_putI, T_putZ, FM F, m1, TK, lt_run hn, Option.some.injEq, exists_eq_left', true_and, and_true, if_true, if_false, decide_eq_false_iff_not, decide_eq_true_eq, Nat.reduceAdd, Nat.reduceLeDiff, Nat.reduceLT, Int.reduceAdd, Int.reduceSub, Int.reduceMul, Int.reduceNeg, not_true_eq_false, not_false_eq_true]
    rw [if_neg (by omega)]
    first | exact ⟨rfl, ⟨⟨t, bb, T, m1, m2⟩, Ef.refl⟩, rfl, rfl⟩ | exact ⟨⟨t, bb, T, m1, m2⟩, Ef.refl⟩
theorem Pend (F : FH hr) (hn : 775 ≤ n) (C : CpT h) (x : Int32) : Pr2 E 134 214 [.int x] h hr n (fun h' hr' n' => (CpT h' ∧ Ef SFe h h') ∧ hr' = hr ∧ n' = n) := by
  obtain ⟨t, bb, T, m1, m2⟩ := C
  obtain ⟨a, ha, ha', rfl⟩ := J_of x
  have t1 := T.1
  have B1 := T.2.2.1
  unfold Pr2
  simp +decide (maxSteps := 4000000) (disch := omega) only [k134_0, k134_1, k134_2, k134_r, k134_s, F_il1, J_iflt, F_al0, T_getR, T_getI, T_icle, T_ft, T_I, T_ret, T_putI, T_putZ, FX F, B1, TK, lt_run hn, Option.some.injEq, exists_eq_left', true_and, and_true, if_true, if_false, decide_eq_false_iff_not, decide_eq_true_eq, Nat.reduceAdd, Nat.reduceLeDiff, Nat.reduceLT, Int.reduceAdd, Int.reduceSub, Int.reduceMul, Int.reduceNeg, not_true_eq_false, not_false_eq_true]
  by_cases c0 : a < 0
  · rw [if_pos c0]
    refine ⟨_, rfl, ?_⟩
    simp +decide (maxSteps := 4000000) (disch := omega) only [k214_0, k214_1, k214_2, k214_r, k214_s, F_il1, J_iflt, F_al0, T_getI, T_icle, T_ft, T_I, T_ret, T_putI, T_putZ, FM F, m1, c0, TK, lt_run hn, Option.some.injEq, exists_eq_left', true_and, and_true, if_true, if_false, decide_eq_false_iff_not, decide_eq_true_eq, Nat.reduceAdd, Nat.reduceLeDiff, Nat.reduceLT, Int.reduceAdd, Int.reduceSub, Int.reduceMul, Int.reduceNeg, not_true_eq_false, not_false_eq_true]
    first | exact ⟨rfl, ⟨⟨t, bb, T, m1, m2⟩, Ef.refl⟩, rfl, rfl⟩ | exact ⟨⟨t, bb, T, m1, m2⟩, Ef.refl⟩
  · rw [if_neg c0]
    by_cases c1 : a ≤ t
    · rw [if_pos c1]
      refine ⟨_, rfl, ?_⟩
      have m1' : hI h 44 1 (J a) 704 2 = J t := by rw [hI_o (by decide)]; exact m1
      simp +decide (maxSteps := 4000000) (disch := omega) only [k214_0, k214_1, k214_2, k214_r, k214_s, F_il1, J_iflt, F_al0, T_getI, T_icle, T_ft, T_I, T_ret, T_putI, T_putZ, FM F, m1', c0, c1, TK, lt_run hn, Option.some.injEq, exists_eq_left', true_and, and_true, if_true, if_false, decide_eq_false_iff_not, decide_eq_true_eq, Nat.reduceAdd, Nat.reduceLeDiff, Nat.reduceLT, Int.reduceAdd, Int.reduceSub, Int.reduceMul, Int.reduceNeg, not_true_eq_false, not_false_eq_true]
      refine ⟨⟨a, bb, ⟨by omega, T.2.1, ?_, fun i i1 i2 => ?_⟩, hI_s, fun i i1 i2 => ?_⟩, ?_⟩
      · rw [hI_o (by decide), hI_s]
      · rw [gA_o (by decide), gA_o (by decide)]
        exact T.2.2.2 i i1 (by omega)
      · rw [gA_o (by decide), gA_o (by decide)]
        exact m2 i i1 (by omega)
      · exact (Ef.refl.hI (Or.inl ⟨rfl, rfl⟩)).hI (Or.inr (Or.inr (Or.inl ⟨rfl, rfl⟩)))
    · rw [if_neg c1]
      refine ⟨_, rfl, ?_⟩
      simp +decide (maxSteps := 4000000) (disch := omega) only [k214_0, k214_1, k214_2, k214_r, k214_s, F_il1, J_iflt, F_al0, T_getI, T_icle, T_ft, T_I, T_ret, T_putI, T_putZ, FM F, m1, c0, c1, TK, lt_run hn, Option.some.injEq, exists_eq_left', true_and, and_true, if_true, if_false, decide_eq_false_iff_not, decide_eq_true_eq, Nat.reduceAdd, Nat.reduceLeDiff, Nat.reduceLT, Int.reduceAdd, Int.reduceSub, Int.reduceMul, Int.reduceNeg, not_true_eq_false, not_false_eq_true]
      first | exact ⟨rfl, ⟨⟨t, bb, T, m1, m2⟩, Ef.refl⟩, rfl, rfl⟩ | exact ⟨⟨t, bb, T, m1, m2⟩, Ef.refl⟩
/-- THE OUT of both -/
def CpO (E : AEn) (h : AHi) (hr : AHr) (n : Nat) : Prop := ∃ o b r cap, Ob E hr n 46 r cap ∧ (r = 47 ∧ cap = 512 ∨ r = 775 ∧ cap = 49264) ∧ (0 ≤ o ∧ o ≤ cap) ∧ (∀ i, 0 ≤ b i ∧ b i ≤ 255) ∧ BC h 46 r o b ∧ h 704 7 = J o ∧ ∀ i, 0 ≤ i → i < o → gA h 707 i = J (b i)
theorem Pout (F : FH hr) (hn : 775 ≤ n) (C : CpO E h hr n) (x : Int32) : Pr2 E 135 215 [.int x] h hr n (fun h' hr' n' => h' = h ∧ hr' = hr ∧ n' = n) := by
  obtain ⟨o, b, r, cap, O, hc, ho, hb, B, m1, m2⟩ := C
  obtain ⟨a, ha, ha', rfl⟩ := J_of x
  have o2 := O.2.2.2.2.2.2.2.2.2
  unfold Pr2
  simp +decide (maxSteps := 4000000) (disch := omega) only [k135_0, k135_r, k135_s, F_al0, T_getR, F_il1, T_ret, c12, FX F, TK, lt_run hn, Option.some.injEq, exists_eq_left', true_and, and_true, if_true, if_false, decide_eq_false_iff_not, decide_eq_true_eq, Nat.reduceAdd, Nat.reduceLeDiff, Nat.reduceLT, Int.reduceAdd, Int.reduceSub, Int.reduceMul, Int.reduceNeg, not_true_eq_false, not_false_eq_true]
  rw [s12 O B hb (by omega) (by omega) ha ha']
  simp +decide (maxSteps := 4000000) (disch := omega) only [k135_0, k135_r, k135_s, F_al0, T_getR, F_il1, T_ret, c12, FX F, TK, lt_run hn, Option.some.injEq, exists_eq_left', true_and, and_true, if_true, if_false, decide_eq_false_iff_not, decide_eq_true_eq, Nat.reduceAdd, Nat.reduceLeDiff, Nat.reduceLT, Int.reduceAdd, Int.reduceSub, Int.reduceMul, Int.reduceNeg, not_true_eq_false, not_false_eq_true]
  refine ⟨_, rfl, ?_⟩
  unfold bt
  by_cases c0 : 0 ≤ a ∧ a < o
  · rw [if_pos c0]
    have m3 := m2 a (by omega) (by omega)
    simp +decide (maxSteps := 4000000) (disch := omega) only [k215_0, k215_1, k215_2, k215_r, k215_s, F_il1, J_iflt, F_al0, T_getI, T_icge, T_getR, X_iald, T_goto, T_I, T_ft, T_ret, FM F, ln_707, m1, m3, show ¬ a < 0 by omega, show ¬ o ≤ a by omega, TK, lt_run hn, Option.some.injEq, exists_eq_left', true_and, and_true, if_true, if_false, decide_eq_false_iff_not, decide_eq_true_eq, Nat.reduceAdd, Nat.reduceLeDiff, Nat.reduceLT, Int.reduceAdd, Int.reduceSub, Int.reduceMul, Int.reduceNeg, not_true_eq_false, not_false_eq_true]
  · rw [if_neg c0]
    by_cases c1 : a < 0
    · simp +decide (maxSteps := 4000000) (disch := omega) only [k215_0, k215_1, k215_2, k215_r, k215_s, F_il1, J_iflt, F_al0, T_getI, T_icge, T_getR, X_iald, T_goto, T_I, T_ft, T_ret, FM F, m1, c1, TK, lt_run hn, Option.some.injEq, exists_eq_left', true_and, and_true, if_true, if_false, decide_eq_false_iff_not, decide_eq_true_eq, Nat.reduceAdd, Nat.reduceLeDiff, Nat.reduceLT, Int.reduceAdd, Int.reduceSub, Int.reduceMul, Int.reduceNeg, not_true_eq_false, not_false_eq_true]
    · simp +decide (maxSteps := 4000000) (disch := omega) only [k215_0, k215_1, k215_2, k215_r, k215_s, F_il1, J_iflt, F_al0, T_getI, T_icge, T_getR, X_iald, T_goto, T_I, T_ft, T_ret, FM F, m1, c1, show o ≤ a by omega, TK, lt_run hn, Option.some.injEq, exists_eq_left', true_and, and_true, if_true, if_false, decide_eq_false_iff_not, decide_eq_true_eq, Nat.reduceAdd, Nat.reduceLeDiff, Nat.reduceLT, Int.reduceAdd, Int.reduceSub, Int.reduceMul, Int.reduceNeg, not_true_eq_false, not_false_eq_true]
end FE
