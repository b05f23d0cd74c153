/-! BONES: what they are, where they point -/
theorem J_andm {k : Nat} (hk : k < 32) (a : Int) : J a &&& J ((2 ^ k - 1 : Nat) : Int) = J (a % ((2 ^ k : Nat) : Int)) := by
  rw [← Int32.toBitVec_inj, Int32.toBitVec_and]
  apply BitVec.eq_of_toNat_eq
  rw [BitVec.toNat_and]
  have p0 : 0 < 2 ^ k := Nat.two_pow_pos k
  have p1 : 2 ^ k ≤ 2 ^ 31 := Nat.pow_le_pow_right (by decide) (by omega)
  have p2 : (2 ^ k : Nat) ∣ 2 ^ 32 := Nat.pow_dvd_pow 2 (by omega)
  have e1 : ∀ a : Int, (J a).toBitVec.toNat = (a % 4294967296).toNat := fun a => by
    show (BitVec.ofInt 32 a).toNat = _
    rw [BitVec.toNat_ofInt]
    rfl
  rw [e1, e1, e1]
  have e2 : (((2 ^ k - 1 : Nat) : Int) % 4294967296).toNat = 2 ^ k - 1 := by
    rw [Int.emod_eq_of_lt (by omega) (by omega)]
    omega
  rw [e2, Nat.and_two_pow_sub_one_eq_mod]
  have p3 : ((2 ^ k : Nat) : Int) ∣ 4294967296 := Int.ofNat_dvd.mpr p2
  have e3 : a % 4294967296 % ((2 ^ k : Nat) : Int) = a % ((2 ^ k : Nat) : Int) := Int.emod_emod_of_dvd a p3
  have h0 : 0 ≤ a % ((2 ^ k : Nat) : Int) := Int.emod_nonneg _ (by omega)
  have h1 : a % ((2 ^ k : Nat) : Int) < ((2 ^ k : Nat) : Int) := Int.emod_lt_of_pos _ (by omega)
  have h2 : 0 ≤ a % 4294967296 := by omega
  rw [Int.emod_eq_of_lt (a := a % ((2 ^ k : Nat) : Int)) h0 (by omega), ← e3]
  apply Int.ofNat.inj
  show (((a % 4294967296).toNat % 2 ^ k : Nat) : Int) = ((a % 4294967296 % ((2 ^ k : Nat) : Int)).toNat : Int)
  rw [Int.natCast_emod, Int.toNat_of_nonneg h2, Int.toNat_of_nonneg (by rw [e3]; exact h0)]
theorem J_and31 (a : Int) : J a &&& J 31 = J (a % 32) := J_andm (k := 5) (by decide) a
theorem J_and15 (a : Int) : J a &&& J 15 = J (a % 16) := J_andm (k := 4) (by decide) a
theorem J_and255 (a : Int) : J a &&& J 255 = J (a % 256) := J_andm (k := 8) (by decide) a
theorem J_and1 (a : Int) : J a &&& J 1 = J (a % 2) := J_andm (k := 1) (by decide) a
def snq (e : Int) : Int := if e = 0 then 0 else if e = 1 then 200 else if e = 2 then 392 else if e = 3 then 569 else if e = 4 then 724 else if e = 5 then 851 else if e = 6 then 946 else if e = 7 then 1004 else 1024
def snh (q : Int) : Int := if q ≤ 8 then q else 16 - q
/-- SINE -/
def sn (a : Int) : Int := if a % 32 < 16 then snq (snh (a % 16)) else -snq (snh (a % 16))
theorem snq_r (e : Int) : 0 ≤ snq e ∧ snq e ≤ 1024 := by
  unfold snq
  repeat' split
  all_goals omega
theorem sn_r (a : Int) : -1024 ≤ sn a ∧ sn a ≤ 1024 := by
  have := snq_r (snh (a % 16))
  unfold sn
  split <;> omega
theorem sn_m (a b : Int) (h : a % 32 = b % 32) : sn a = sn b := by
  unfold sn
  rw [h, show a % 16 = b % 16 by omega]
section BO
variable {E : AEn} {h h' : AHi} {hr : AHr} {n : Nat} {Q : ARs → Prop}
theorem rX_1 {e : Int} (h0 : 0 ≤ e) (h1 : e ≤ 8) : rX E h 1 (J e) = J (snq e) := by
  rcases (show e = 0 ∨ e = 1 ∨ e = 2 ∨ e = 3 ∨ e = 4 ∨ e = 5 ∨ e = 6 ∨ e = 7 ∨ e = 8 by omega) with rfl | rfl | rfl | rfl | rfl | rfl | rfl | rfl | rfl <;> rfl
theorem s169 (hn : 775 ≤ n) {a : Int} (h0 : -1000 ≤ a) (h1 : a ≤ 1000) : Sp E 169 [.int (J a)] h hr n Q ↔ Q (some (.int (J (sn a))), h, hr, n) := by
  have l1 : a_ln E 1 = 9 := rfl
  have em : a % 32 % 16 = a % 16 := by omega
  have k1 : a_kd 1 = 20 := rfl
  unfold sn snh
  by_cases g : a % 16 ≤ 8
  · rw [if_pos g]
    have rx := rX_1 (E := E) (h := h) (e := a % 16) (by omega) g
    have sq := snq_r (a % 16)
    by_cases g2 : a % 32 < 16
    · rw [if_pos g2]
      simp +decide (maxSteps := 4000000) (disch := omega) only [k169_0, k169_1, k169_2, k169_3, k169_4, k169_r, k169_s, F_il0, T_I, T_and, F_is1i, F_is1r, F_is1m, F_il1, F_is2i, F_is2r, F_is2m, T_cR, F_il2, T_icgt, T_goto, T_sub, T_ft, X_iald, F_is3i, F_is3r, F_is3m, T_icge, F_il3, T_neg, T_ret, J_and31, J_and15, em, rx, l1, k1, show ¬ 8 < a % 16 by omega, show ¬ 16 ≤ a % 32 by omega, ↓reduceIte, TK, lt_run hn, le43, Int.le_refl, Int.lt_irrefl, Option.some.injEq, exists_eq_left', true_and, and_true, if_true, if_false, decide_eq_false_iff_not, decide_eq_true_eq, Nat.reduceAdd, Nat.reduceLeDiff, Nat.reduceLT, Int.reduceAdd, Int.reduceSub, Int.reduceMul, Int.reduceNeg, not_true_eq_false, not_false_eq_true]
    · rw [if_neg g2]
      simp +decide (maxSteps := 4000000) (disch := omega) only [k169_0, k169_1, k169_2, k169_3, k169_4, k169_r, k169_s, F_il0, T_I, T_and, F_is1i, F_is1r, F_is1m, F_il1, F_is2i, F_is2r, F_is2m, T_cR, F_il2, T_icgt, T_goto, T_sub, T_ft, X_iald, F_is3i, F_is3r, F_is3m, T_icge, F_il3, T_neg, T_ret, J_and31, J_and15, em, rx, l1, k1, J_neg, show ¬ 8 < a % 16 by omega, show 16 ≤ a % 32 by omega, ↓reduceIte, TK, lt_run hn, le43, Int.le_refl, Int.lt_irrefl, Option.some.injEq, exists_eq_left', true_and, and_true, if_true, if_false, decide_eq_false_iff_not, decide_eq_true_eq, Nat.reduceAdd, Nat.reduceLeDiff, Nat.reduceLT, Int.reduceAdd, Int.reduceSub, Int.reduceMul, Int.reduceNeg, not_true_eq_false, not_false_eq_true]
  · rw [if_neg g]
    have rx := rX_1 (E := E) (h := h) (e := 16 - a % 16) (by omega) (by omega)
    have sq := snq_r (16 - a % 16)
    by_cases g2 : a % 32 < 16
    · rw [if_pos g2]
      simp +decide (maxSteps := 4000000) (disch := omega) only [k169_0, k169_1, k169_2, k169_3, k169_4, k169_r, k169_s, F_il0, T_I, T_and, F_is1i, F_is1r, F_is1m, F_il1, F_is2i, F_is2r, F_is2m, T_cR, F_il2, T_icgt, T_goto, T_sub, T_ft, X_iald, F_is3i, F_is3r, F_is3m, T_icge, F_il3, T_neg, T_ret, J_and31, J_and15, em, rx, l1, k1, show 8 < a % 16 by omega, show ¬ 16 ≤ a % 32 by omega, ↓reduceIte, TK, lt_run hn, le43, Int.le_refl, Int.lt_irrefl, Option.some.injEq, exists_eq_left', true_and, and_true, if_true, if_false, decide_eq_false_iff_not, decide_eq_true_eq, Nat.reduceAdd, Nat.reduceLeDiff, Nat.reduceLT, Int.reduceAdd, Int.reduceSub, Int.reduceMul, Int.reduceNeg, not_true_eq_false, not_false_eq_true]
    · rw [if_neg g2]
      simp +decide (maxSteps := 4000000) (disch := omega) only [k169_0, k169_1, k169_2, k169_3, k169_4, k169_r, k169_s, F_il0, T_I, T_and, F_is1i, F_is1r, F_is1m, F_il1, F_is2i, F_is2r, F_is2m, T_cR, F_il2, T_icgt, T_goto, T_sub, T_ft, X_iald, F_is3i, F_is3r, F_is3m, T_icge, F_il3, T_neg, T_ret, J_and31, J_and15, em, rx, l1, k1, J_neg, show 8 < a % 16 by omega, show 16 ≤ a % 32 by omega, ↓reduceIte, TK, lt_run hn, le43, Int.le_refl, Int.lt_irrefl, Option.some.injEq, exists_eq_left', true_and, and_true, if_true, if_false, decide_eq_false_iff_not, decide_eq_true_eq, Nat.reduceAdd, Nat.reduceLeDiff, Nat.reduceLT, Int.reduceAdd, Int.reduceSub, Int.reduceMul, Int.reduceNeg, not_true_eq_false, not_false_eq_true]
theorem s296 (hn : 775 ≤ n) {a : Int} (h0 : -1000 ≤ a) (h1 : a ≤ 1000) : Sp E 296 [.int (J a)] h hr n Q ↔ Q (some (.int (J (sn a))), h, hr, n) := by
  have em : a % 32 % 16 = a % 16 := by omega
  have go : ∀ e v2 : Int, (0 ≤ e ∧ e ≤ 8) → (Tm E 296 (a_bl 296 2) [.int (J a), .int (J (a % 32)), .int (J v2), a_mk, a_mk] [.int (J e)] h hr n Q ↔ Q (some (.int (J (if a % 32 < 16 then snq e else -snq e))), h, hr, n)) := fun e v2 he => by
    have fin : ∀ v : Int, (Tm E 296 (a_bl 296 11) [.int (J a), .int (J (a % 32)), .int (J v2), .int (J e), a_mk] [.int (J v)] h hr n Q ↔ Q (some (.int (J (if a % 32 < 16 then v else -v))), h, hr, n)) := fun v => by
      rw [k296_11]
      by_cases g2 : a % 32 < 16
      · rw [if_pos g2]
        simp +decide (maxSteps := 4000000) (disch := omega) only [k296_0, k296_1, k296_2, k296_3, k296_4, k296_5, k296_6, k296_7, k296_8, k296_9, k296_10, k296_11, k296_12, k296_13, k296_r, k296_s, F_il0, T_I, T_and, F_is1i, F_is1r, F_is1m, F_il1, T_rem, F_is2i, F_is2r, F_is2m, F_il2, T_icle, T_sub, T_goto, T_ft, F_is3i, F_is3r, F_is3m, F_il3, J_ifne, J_icne, F_is4i, F_is4r, F_is4m, T_icge, F_il4, T_neg, T_ret, show ¬ 16 ≤ a % 32 by omega, ↓reduceIte, TK, lt_run hn, le43, Int.le_refl, Int.lt_irrefl, Option.some.injEq, exists_eq_left', true_and, and_true, if_true, if_false, decide_eq_false_iff_not, decide_eq_true_eq, Nat.reduceAdd, Nat.reduceLeDiff, Nat.reduceLT, Int.reduceAdd, Int.reduceSub, Int.reduceMul, Int.reduceNeg, not_true_eq_false, not_false_eq_true]
      · rw [if_neg g2]
        simp +decide (maxSteps := 4000000) (disch := omega) only [k296_0, k296_1, k296_2, k296_3, k296_4, k296_5, k296_6, k296_7, k296_8, k296_9, k296_10, k296_11, k296_12, k296_13, k296_r, k296_s, F_il0, T_I, T_and, F_is1i, F_is1r, F_is1m, F_il1, T_rem, F_is2i, F_is2r, F_is2m, F_il2, T_icle, T_sub, T_goto, T_ft, F_is3i, F_is3r, F_is3m, F_il3, J_ifne, J_icne, F_is4i, F_is4r, F_is4m, T_icge, F_il4, T_neg, T_ret, J_neg, show 16 ≤ a % 32 by omega, ↓reduceIte, TK, lt_run hn, le43, Int.le_refl, Int.lt_irrefl, Option.some.injEq, exists_eq_left', true_and, and_true, if_true, if_false, decide_eq_false_iff_not, decide_eq_true_eq, Nat.reduceAdd, Nat.reduceLeDiff, Nat.reduceLT, Int.reduceAdd, Int.reduceSub, Int.reduceMul, Int.reduceNeg, not_true_eq_false, not_false_eq_true]
    rw [k296_2]
    rcases (show e = 0 ∨ e = 1 ∨ e = 2 ∨ e = 3 ∨ e = 4 ∨ e = 5 ∨ e = 6 ∨ e = 7 ∨ e = 8 by omega) with rfl | rfl | rfl | rfl | rfl | rfl | rfl | rfl | rfl
    all_goals
      simp +decide (maxSteps := 4000000) (disch := omega) only [k296_0, k296_1, k296_2, k296_3, k296_4, k296_5, k296_6, k296_7, k296_8, k296_9, k296_10, k296_12, k296_13, k296_r, k296_s, F_il0, T_I, T_and, F_is1i, F_is1r, F_is1m, F_il1, T_rem, F_is2i, F_is2r, F_is2m, F_il2, T_icle, T_sub, T_goto, T_ft, F_is3i, F_is3r, F_is3m, F_il3, J_ifne, J_icne, F_is4i, F_is4r, F_is4m, T_icge, F_il4, T_neg, T_ret, fin, ↓reduceIte, TK, lt_run hn, le43, Int.le_refl, Int.lt_irrefl, Option.some.injEq, exists_eq_left', true_and, and_true, if_true, if_false, decide_eq_false_iff_not, decide_eq_true_eq, Nat.reduceAdd, Nat.reduceLeDiff, Nat.reduceLT, Int.reduceAdd, Int.reduceSub, Int.reduceMul, Int.reduceNeg, not_true_eq_false, not_false_eq_true]
      exact Iff.rfl
  unfold sn snh
  by_cases g : a % 16 ≤ 8
  · rw [if_pos g]
    simp +decide (maxSteps := 4000000) (disch := omega) only [k296_0, k296_1, k296_3, k296_4, k296_5, k296_6, k296_7, k296_8, k296_9, k296_10, k296_11, k296_12, k296_13, k296_r, k296_s, F_il0, T_I, T_and, F_is1i, F_is1r, F_is1m, F_il1, T_rem, F_is2i, F_is2r, F_is2m, F_il2, T_icle, T_sub, T_goto, T_ft, F_is3i, F_is3r, F_is3m, F_il3, J_ifne, J_icne, F_is4i, F_is4r, F_is4m, T_icge, F_il4, T_neg, T_ret, J_and31, J_remp, em, g, ↓reduceIte, TK, lt_run hn, le43, Int.le_refl, Int.lt_irrefl, Option.some.injEq, exists_eq_left', true_and, and_true, if_true, if_false, decide_eq_false_iff_not, decide_eq_true_eq, Nat.reduceAdd, Nat.reduceLeDiff, Nat.reduceLT, Int.reduceAdd, Int.reduceSub, Int.reduceMul, Int.reduceNeg, not_true_eq_false, not_false_eq_true]
    exact go _ _ (by omega)
  · rw [if_neg g]
    simp +decide (maxSteps := 4000000) (disch := omega) only [k296_0, k296_1, k296_3, k296_4, k296_5, k296_6, k296_7, k296_8, k296_9, k296_10, k296_11, k296_12, k296_13, k296_r, k296_s, F_il0, T_I, T_and, F_is1i, F_is1r, F_is1m, F_il1, T_rem, F_is2i, F_is2r, F_is2m, F_il2, T_icle, T_sub, T_goto, T_ft, F_is3i, F_is3r, F_is3m, F_il3, J_ifne, J_icne, F_is4i, F_is4r, F_is4m, T_icge, F_il4, T_neg, T_ret, J_and31, J_remp, em, g, ↓reduceIte, TK, lt_run hn, le43, Int.le_refl, Int.lt_irrefl, Option.some.injEq, exists_eq_left', true_and, and_true, if_true, if_false, decide_eq_false_iff_not, decide_eq_true_eq, Nat.reduceAdd, Nat.reduceLeDiff, Nat.reduceLT, Int.reduceAdd, Int.reduceSub, Int.reduceMul, Int.reduceNeg, not_true_eq_false, not_false_eq_true]
    exact go _ _ (by omega)
end BO
/-- parent, length, low, high, the class's keys, the reference's -/
abbrev Bn : Type := Int × Int × Int × Int × Kys × Kys
def bid (p : Int) : Nat := if p = -1 then 99 else 635 + 6 * p.toNat
def lng (b : Bn) (d : Int) : Int := rd (b.2.1 * sn d) 1024
def BnR (i : Int) (b : Bn) : Prop := ((-1 ≤ b.1 ∧ b.1 < i) ∧ (0 < i → 0 ≤ b.1)) ∧ (0 ≤ b.2.1 ∧ b.2.1 ≤ 40) ∧ (0 ≤ b.2.2.1 ∧ b.2.2.1 ≤ b.2.2.2.1 ∧ b.2.2.2.1 ≤ 31) ∧ KR 6 b.2.2.1 b.2.2.2.1 b.2.2.2.2.1 ∧ KE b.2.2.2.2.1 b.2.2.2.2.2
def BnC (h : AHi) (hr : AHr) (i : Int) (b : Bn) : Prop := hr (635 + 6 * i.toNat) 0 = some (bid b.1) ∧ (h (635 + 6 * i.toNat) 1 = J b.2.2.1 ∧ h (635 + 6 * i.toNat) 2 = J b.2.2.2.1) ∧ KC h (635 + 6 * i.toNat + 1) b.2.2.2.2.1 ∧ ∀ d, 0 ≤ d → d < 32 → gA h (635 + 6 * i.toNat + 4) d = J (lng b (d + 8)) ∧ gA h (635 + 6 * i.toNat + 5) d = J (lng b d)
def BnM (h : AHi) (i : Int) (b : Bn) : Prop := (gA h 742 i = J b.1 ∧ gA h 743 i = J b.2.1 ∧ gA h 744 i = J b.2.2.1 ∧ gA h 745 i = J b.2.2.2.1 ∧ gA h 746 i = J b.2.2.2.2.2.1) ∧ KM h 747 748 (6 * i) b.2.2.2.2.2
def Rt (h : AHi) : Prop := (h 99 1 = J 0 ∧ h 99 2 = J 0 ∧ h 100 2 = J 0) ∧ ∀ d, 0 ≤ d → d < 32 → gA h 103 d = J 0 ∧ gA h 104 d = J 0
def Bw (N : Int) (b : Int → Bn) (h : AHi) (hr : AHr) : Prop := (0 ≤ N ∧ N ≤ 10) ∧ (∀ i, 0 ≤ i → i < N → BnR i (b i)) ∧ (h 43 10 = J N ∧ h 704 50 = J N) ∧ (∀ i, 0 ≤ i → i < N → BnC h hr i (b i) ∧ BnM h i (b i)) ∧ (∀ i, N ≤ i → i < 10 → h (635 + 6 * i.toNat + 1) 2 = J 0) ∧ Rt h
def Cp12 (h : AHi) (hr : AHr) : Prop := ∃ N b, Bw N b h hr
section BW
variable {E : AEn} {h h' : AHi} {hr : AHr} {n : Nat} {Q : ARs → Prop}
theorem KM.ef {S : Nat → Nat → Prop} {fr va : Nat} {b : Int} {L : Kys} (C : KM h fr va b L) (e : Ef S h h') (hs : ∀ j, 0 ≤ j → j < L.1 → ¬ S fr (b + j).toNat ∧ ¬ S va (b + j).toNat) : KM h' fr va b L := fun j j0 j1 => by
  rw [e.g (hs j j0 j1).1, e.g (hs j j0 j1).2]
  exact C j j0 j1
theorem Rt.ef {S : Nat → Nat → Prop} (C : Rt h) (e : Ef S h h') (hs : ∀ x k, 99 ≤ x → x ≤ 104 → ¬ S x k) : Rt h' := by
  refine ⟨⟨?_, ?_, ?_⟩, fun d d0 d1 => ?_⟩
  · rw [e _ _ (hs _ _ (by decide) (by decide))]
    exact C.1.1
  · rw [e _ _ (hs _ _ (by decide) (by decide))]
    exact C.1.2.1
  · rw [e _ _ (hs _ _ (by decide) (by decide))]
    exact C.1.2.2
  · rw [e.g (hs _ _ (by decide) (by decide)), e.g (hs _ _ (by decide) (by decide))]
    exact C.2 d d0 d1
theorem BnC.ef {S : Nat → Nat → Prop} {i : Int} {b : Bn} (C : BnC h hr i b) (e : Ef S h h') (hs : ∀ x k, 635 + 6 * i.toNat ≤ x → x ≤ 635 + 6 * i.toNat + 5 → ¬ S x k) : BnC h' hr i b := by
  obtain ⟨c1, ⟨c2, c3⟩, c4, c5⟩ := C
  refine ⟨c1, ⟨?_, ?_⟩, c4.ef e (fun x k h1 h2 => hs x k (by omega) (by omega)), fun d d0 d1 => ?_⟩
  · rw [e _ _ (hs _ _ (by omega) (by omega))]
    exact c2
  · rw [e _ _ (hs _ _ (by omega) (by omega))]
    exact c3
  · rw [e.g (hs _ _ (by omega) (by omega)), e.g (hs _ _ (by omega) (by omega))]
    exact c5 d d0 d1
theorem BnM.ef {S : Nat → Nat → Prop} {i : Int} {b : Bn} (C : BnM h i b) (e : Ef S h h') (hs : ∀ x k, 742 ≤ x → x ≤ 748 → ¬ S x k) : BnM h' i b := by
  obtain ⟨c1, c2⟩ := C
  refine ⟨?_, c2.ef e (fun j j0 j1 => ⟨hs _ _ (by decide) (by decide), hs _ _ (by decide) (by decide)⟩)⟩
  rw [e.g (hs _ _ (by decide) (by decide)), e.g (hs _ _ (by decide) (by decide)), e.g (hs _ _ (by decide) (by decide)), e.g (hs _ _ (by decide) (by decide)), e.g (hs _ _ (by decide) (by decide))]
  exact c1
theorem sysR {a k : Nat} (h1 : 99 ≤ a) (h2 : a ≤ 104) : sys a k = 12 := by
  rcases (show a = 99 ∨ a = 100 ∨ a = 101 ∨ a = 102 ∨ a = 103 ∨ a = 104 by omega) with rfl | rfl | rfl | rfl | rfl | rfl <;> rfl
theorem sysBm {a k : Nat} (h1 : 742 ≤ a) (h2 : a ≤ 748) : sys a k = 12 := by
  rcases (show a = 742 ∨ a = 743 ∨ a = 744 ∨ a = 745 ∨ a = 746 ∨ a = 747 ∨ a = 748 by omega) with rfl | rfl | rfl | rfl | rfl | rfl | rfl <;> rfl
theorem Bw.sm {N : Int} {b : Int → Bn} (C : Bw N b h hr) (e : Sm 12 h h') : Bw N b h' hr := by
  obtain ⟨c1, c2, ⟨c3, c4⟩, c5, c6, c7⟩ := C
  have ee : Ef (fun a k => sys a k ≠ 12) h h' := fun a k q => e a k (Decidable.not_not.mp q)
  refine ⟨c1, c2, ⟨?_, ?_⟩, fun i i0 i1 => ?_, fun i i0 i1 => ?_, c7.ef ee (fun x k h1 h2 q => q (sysR h1 h2))⟩
  · rw [e 43 10 rfl]
    exact c3
  · rw [e 704 50 rfl]
    exact c4
  · obtain ⟨d1, d2⟩ := c5 i i0 i1
    exact ⟨d1.ef ee (fun x k h1 h2 q => q (sys_12 (by omega) (by omega))), d2.ef ee (fun x k h1 h2 q => q (sysBm h1 h2))⟩
  · rw [e _ _ (sys_12 (by omega) (by omega))]
    exact c6 i i0 i1
theorem Cp12.sm (C : Cp12 h hr) (e : Sm 12 h h') : Cp12 h' hr := by
  obtain ⟨N, b, C⟩ := C
  exact ⟨N, b, C.sm e⟩
theorem bid_B {p : Int} (h0 : -1 ≤ p) (h1 : p < 10) : BB (bid p) := by
  unfold bid
  split
  · exact Or.inl rfl
  · exact Or.inr ⟨p.toNat, by omega, rfl⟩
theorem bid_p {p : Int} (h : 0 ≤ p) : bid p = 635 + 6 * p.toNat := if_neg (by omega)
theorem BB.k {o : Nat} (B : BB o) (E : AEn) (F : FH hr) : Kb E hr (o + 1) 6 := by
  obtain ⟨⟨_, _, _, x4, x5⟩, ⟨_, y2, y3, y4, _, _⟩, z1, z2, _, _⟩ := B.x E F
  have := B.r
  exact ⟨⟨x4, x5⟩, ⟨y2, y3, y4⟩, ⟨z1, z2⟩, ⟨by omega, by omega⟩, by decide, by decide⟩
/-- a bone of the class, or its root: where it hangs, low, high, keys, along -/
def BV (h : AHi) (hr : AHr) (o : Nat) (p : Option Nat) (lo hi : Int) (K : Kys) (ax ay : Int → Int) : Prop := BB o ∧ hr o 0 = p ∧ (h o 1 = J lo ∧ h o 2 = J hi) ∧ KC h (o + 1) K ∧ KR 6 0 31 K ∧ (0 ≤ lo ∧ lo ≤ hi ∧ hi ≤ 31) ∧ ∀ d, 0 ≤ d → d < 32 → (gA h (o + 4) d = J (ax d) ∧ gA h (o + 5) d = J (ay d)) ∧ (-41 ≤ ax d ∧ ax d ≤ 41) ∧ -41 ≤ ay d ∧ ay d ≤ 41
theorem KR.mono {cap : Nat} {lo hi lo' hi' : Int} {K : Kys} (R : KR cap lo hi K) (h1 : lo' ≤ lo) (h2 : hi ≤ hi') : KR cap lo' hi' K := ⟨R.1, fun i i0 i1 => ⟨(R.2.1 i i0 i1).1, by have := (R.2.1 i i0 i1).2; omega⟩, R.2.2⟩
/-- the root's -/
def Kn0 : Kys := (0, fun _ => 0, fun _ => 0)
theorem Kn0_r : KR 6 0 31 Kn0 := ⟨⟨by decide, by decide⟩, fun i i0 i1 => by have : i < 0 := i1; omega, fun i j i0 i1 i2 => by have : j < 0 := i2; omega⟩
def bK (b : Int → Bn) (i : Int) : Kys := if i = -1 then Kn0 else (b i).2.2.2.2.1
def bLo (b : Int → Bn) (i : Int) : Int := if i = -1 then 0 else (b i).2.2.1
def bHi (b : Int → Bn) (i : Int) : Int := if i = -1 then 0 else (b i).2.2.2.1
def bL (b : Int → Bn) (i d : Int) : Int := if i = -1 then 0 else lng (b i) d
def bP (b : Int → Bn) (i : Int) : Option Nat := if i = -1 then none else some (bid (b i).1)
theorem lng_r {b : Bn} (h : 0 ≤ b.2.1 ∧ b.2.1 ≤ 40) (d : Int) : -41 ≤ lng b d ∧ lng b d ≤ 41 := by
  have s := sn_r d
  have m := mulb (a := b.2.1) (b := sn d) (A := 40) (B := 1024) (by omega) (by omega)
  unfold lng rd
  omega
theorem Bw.v (F : FH hr) {N : Int} {b : Int → Bn} (C : Bw N b h hr) {i : Int} (i0 : -1 ≤ i) (i1 : i < N) : BV h hr (bid i) (bP b i) (bLo b i) (bHi b i) (bK b i) (fun d => bL b i (d + 8)) (bL b i) := by
  obtain ⟨c1, c2, ⟨c3, c4⟩, c5, c6, c7⟩ := C
  have B := bid_B i0 (show i < 10 by omega)
  by_cases e : i = -1
  · subst e
    obtain ⟨⟨a1, a2, a3⟩, a4⟩ := c7
    have b0 : bid (-1) = 99 := rfl
    have b1 : bP b (-1) = none := rfl
    have b2 : bLo b (-1) = 0 := rfl
    have b3 : bHi b (-1) = 0 := rfl
    have b4 : bK b (-1) = Kn0 := rfl
    have b5 : ∀ d, bL b (-1) d = 0 := fun d => rfl
    have h99 : hr 99 0 = none := (F 99 0 (by decide +kernel)).trans (show HR0 99 0 = none by decide +kernel)
    rw [b1, b2, b3, b4]
    rw [b0] at B ⊢
    refine ⟨B, h99, ⟨a1, a2⟩, ⟨a3, fun i i0 i1 => ?_⟩, Kn0_r, ⟨by decide, by decide, by decide⟩, fun d d0 d1 => ?_⟩
    · have : i < 0 := i1
      omega
    · dsimp only
      rw [b5, b5]
      exact ⟨a4 d d0 d1, ⟨by decide, by decide⟩, by decide, by decide⟩
  · obtain ⟨⟨d1, ⟨d2, d3⟩, d4, d5⟩, _⟩ := c5 i (by omega) i1
    obtain ⟨r1, r2, r3, r4, r5⟩ := c2 i (by omega) i1
    unfold bP bLo bHi bK bL
    rw [bid_p (show 0 ≤ i by omega)] at B ⊢
    rw [if_neg e, if_neg e, if_neg e, if_neg e]
    refine ⟨B, d1, ⟨d2, d3⟩, d4, r4.mono r3.1 r3.2.2, r3, fun d q0 q1 => ?_⟩
    dsimp only
    rw [if_neg e, if_neg e]
    exact ⟨d5 d q0 q1, lng_r r2 _, lng_r r2 _⟩
theorem BV.ef {S : Nat → Nat → Prop} {o : Nat} {p : Option Nat} {lo hi : Int} {K : Kys} {ax ay : Int → Int} (V : BV h hr o p lo hi K ax ay) (e : Ef S h h') (hs : ∀ x k, o ≤ x → x ≤ o + 5 → ¬ S x k) : BV h' hr o p lo hi K ax ay := by
  obtain ⟨B, v1, ⟨v2, v3⟩, v4, v5, v6, v7⟩ := V
  refine ⟨B, v1, ⟨?_, ?_⟩, v4.ef e (fun x k h1 h2 => hs x k (by omega) (by omega)), v5, v6, fun d d0 d1 => ?_⟩
  · rw [e _ _ (hs _ _ (by omega) (by omega))]
    exact v2
  · rw [e _ _ (hs _ _ (by omega) (by omega))]
    exact v3
  · rw [e.g (hs _ _ (by omega) (by omega)), e.g (hs _ _ (by omega) (by omega))]
    exact v7 d d0 d1
/-- a value between keys lies between low and high -/
theorem kval_r {cap : Nat} {lo hi : Int} {K : Kys} (R : KR cap lo hi K) (f : Int) {o : Int} (ho : lo ≤ o ∧ o ≤ hi) : lo ≤ kval K f o ∧ kval K f o ≤ hi := by
  have ka := kah_r R.1.1 f
  unfold kval
  by_cases g1 : K.1 = 0
  · rw [if_pos g1]
    exact ho
  rw [if_neg g1]
  by_cases g2 : kah K f = K.1
  · rw [if_pos g2]
    exact (R.2.1 (K.1 - 1) (by have := R.1; omega) (by omega)).2
  rw [if_neg g2]
  by_cases g3 : kah K f = 0 ∨ K.2.1 (kah K f) = f
  · rw [if_pos g3]
    exact (R.2.1 (kah K f) ka.1.1 (by omega)).2
  rw [if_neg g3]
  have e1 := R.2.1 (kah K f) ka.1.1 (by omega)
  have e2 := R.2.1 (kah K f - 1) (by omega) (by omega)
  have e3 := ka.2.1 (kah K f - 1) (by omega) (by omega)
  have e4 := ka.2.2 (by omega)
  have e5 := rd_r (n := K.2.1 (kah K f) - K.2.1 (kah K f - 1)) (d := K.2.2 (kah K f) - K.2.2 (kah K f - 1)) (k := f - K.2.1 (kah K f - 1)) (by omega) (by omega)
  rw [Int.mul_comm]
  by_cases q : 0 ≤ K.2.2 (kah K f) - K.2.2 (kah K f - 1)
  · have := e5.1 q
    omega
  · have := e5.2 (by omega)
    omega
theorem s2 (F : FH hr) (hn : 775 ≤ n) {o : Nat} {p : Option Nat} {lo hi f : Int} {K : Kys} {ax ay : Int → Int} (V : BV h hr o p lo hi K ax ay) (hf : 0 ≤ f ∧ f ≤ 119) : Sp E 2 [.ref o, .int (J f)] h hr n Q ↔ Q (some (.int (J (kval K f lo))), h, hr, n) := by
  obtain ⟨B, v1, ⟨v2, v3⟩, v4, v5, v6, v7⟩ := V
  have x1 := B.x E F
  have x2 := B.r
  have S := fun Q v => s55 (Q := Q) (v := v) hn (B.k E F) v5 (by decide) v4 hf
  have lt1 : o < n := by omega
  have lt2 : o + 1 < n := by omega
  simp +decide (maxSteps := 4000000) (disch := omega) only [k2_0, k2_r, k2_s, F_al0, F_an0, T_getR, F_il1, T_getI, T_ret, c55, ↓s55, S, x1, x2, v2, lt1, lt2, ↓reduceIte, TK, lt_run hn, le43, Int.le_refl, Int.lt_irrefl, Option.some.injEq, exists_eq_left', true_and, and_true, if_true, if_false, decide_eq_false_iff_not, decide_eq_true_eq, Nat.reduceAdd, Nat.reduceLeDiff, Nat.reduceLT, Int.reduceAdd, Int.reduceSub, Int.reduceMul, Int.reduceNeg, not_true_eq_false, not_false_eq_true]
end BW
