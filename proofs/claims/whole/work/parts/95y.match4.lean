/-! match: the class's table and trace -/
def bcx (x : Int32) : Int32 :=
  ((((x - (a_ushr x (J 1) &&& J 1431655765) &&& J 858993459) + (a_ushr (x - (a_ushr x (J 1) &&& J 1431655765)) (J 2) &&& J 858993459)) + a_ushr ((x - (a_ushr x (J 1) &&& J 1431655765) &&& J 858993459) + (a_ushr (x - (a_ushr x (J 1) &&& J 1431655765)) (J 2) &&& J 858993459)) (J 4)) &&& J 252645135)
def bcy (x : Int32) : Int32 := (x + a_ushr x (J 8)) + a_ushr (x + a_ushr x (J 8)) (J 16) &&& J 63
theorem bc_t : ∀ S : Nat, S < 256 → bcy (bcx (J (S : Int))) = J (8 - maF (S : Int) 8) := by decide +kernel
theorem bf_t : ∀ b : Nat, b < 9 → ∀ S : Nat, S < 2 ^ b → maF (S : Int) b = (b : Int) - (8 - maF (S : Int) 8) := by decide +kernel
theorem bf_i {S b : Int} (hb : 0 ≤ b ∧ b ≤ 8) (hS : 0 ≤ S ∧ S < maW b) : maF S b.toNat = b - (8 - maF S 8) := by
  have := bf_t b.toNat (by omega) S.toNat (by unfold maW at hS; omega)
  rw [Int.toNat_of_nonneg hS.1, Int.toNat_of_nonneg hb.1] at this
  exact this
section MC
variable {E : AEn} {h h' : AHi} {hr : AHr} {n : Nat} {Q : ARs → Prop} {C : Int → Int → Int} {a b : Int}
theorem s345 (hn : 775 ≤ n) {S : Int} (hS : 0 ≤ S ∧ S < 256) : Sp E 345 [.int (J S)] h hr n Q ↔ Q (some (.int (J (8 - maF S 8))), h, hr, n) := by
  have := bc_t S.toNat (by omega)
  rw [Int.toNat_of_nonneg hS.1] at this
  rw [← this]
  simp +decide (maxSteps := 4000000) (disch := omega) only [k345_0, k345_r, k345_s, F_il0, T_I, T_ushr, T_and, T_sub, F_is0, T_add, T_ret, ↓reduceIte, TK, lt_run hn, le43, Int.le_refl, Int.lt_irrefl, Option.some.injEq, exists_eq_left', true_and, and_true, if_true, if_false, decide_eq_false_iff_not, decide_eq_true_eq, Nat.reduceAdd, Nat.reduceLeDiff, Nat.reduceLT, Int.reduceAdd, Int.reduceSub, Int.reduceMul, Int.reduceNeg, not_true_eq_false, not_false_eq_true]
  exact Iff.rfl
/-- the ranges that the table's sums keep -/
def maVr (C : Int → Int → Int) (a b : Int) : Prop := (0 ≤ a ∧ a ≤ 8) ∧ (0 ≤ b ∧ b ≤ 8) ∧ (∀ (k : Nat) (i S j : Int), 0 ≤ maV C (maT C a b k) i S j ∧ maV C (maT C a b k) i S j ≤ 4200 + 1000000 * (k + 1)) ∧ ∀ (k : Nat) (S : Int), 0 ≤ maT C a b k S ∧ maT C a b k S ≤ 3200 + 1000000 * k
/-- the table's rows from i on -/
def maTt (C : Int → Int → Int) (a b : Int) (h : AHi) (i : Int) : Prop := ∀ i' S, i ≤ i' → i' ≤ a → 0 ≤ S → S < maW b → gA h 95 (i' * 256 + S) = J (maT C a b (a - i').toNat S)
theorem maM_r {v : Int → Int} {S B z : Int} (h : ∀ j, 0 ≤ v j ∧ v j ≤ B) (hz : 0 ≤ z ∧ z ≤ B) (k : Nat) : 0 ≤ maM v S z k ∧ maM v S z k ≤ B := by
  rcases maM_at v S z k with q | ⟨j, _, _, q⟩
  · rw [q]
    exact hz
  · rw [q]
    exact h j
theorem w84 (F : FH hr) (hn : 775 ≤ n) (V : maVr C a b) (b1 : h 91 8 = J a) (b2 : h 91 9 = J b) (cs : maCs b C a h)
    (k : ∀ h', Ef (fun x _ => x = 95) h h' → maTt C a b h' 0 → Q (none, h', hr, n)) : Sp E 84 [.ref 91] h hr n Q := by
  obtain ⟨ha, hb, hV, hT⟩ := V
  have w := maW_r hb
  simp +decide (maxSteps := 4000000) (disch := omega) only [k84_0, k84_2, k84_6, k84_7, k84_8, k84_9, k84_r, k84_s, T_I, F_al0, T_getI, T_shl, F_is1i, F_is1r, F_is1m, F_is2i, F_is2r, F_is2m, T_ft, F_il2, F_il1, T_icge, T_getR, T_mul, T_add, T_sub, T_iast, F_inc2i, F_inc2r, F_inc2m, T_goto, J_iflt, F_is3i, F_is3r, F_is3m, F_il3, F_is4i, F_is4r, F_is4m, F_is5i, F_is5r, F_is5m, F_il5, T_shr, T_and, J_ifne, F_il4, F_inc5i, F_inc5r, F_inc5m, F_inc3i, F_inc3r, F_inc3m, T_ret, c85, c345, c349, ↓s85, ↓s345, ↓s349, FX F, b2, msh hb, ↓reduceIte, TK, lt_run hn, le43, Int.le_refl, Int.lt_irrefl, Option.some.injEq, exists_eq_left', true_and, and_true, if_true, if_false, decide_eq_false_iff_not, decide_eq_true_eq, Nat.reduceAdd, Nat.reduceLeDiff, Nat.reduceLT, Int.reduceAdd, Int.reduceSub, Int.reduceMul, Int.reduceNeg, not_true_eq_false, not_false_eq_true]
  refine T_for (σ := Unit) (fun i _ => [.ref 91, .int (J (maW b)), .int (J i), a_mk, a_mk, a_mk]) (fun q _ h' => Ef (fun x _ => x = 95) h h' ∧ ∀ S, 0 ≤ S → S < q → gA h' 95 (a * 256 + S) = J (400 * maF S b.toNat)) 0 (maW b) ?_ ?_ 0 () h (by omega) (by omega) ⟨Ef.refl, fun S _ _ => by omega⟩
  · rintro S _ h' s0 s1 ⟨e1, e2⟩ ih
    have d1 : h' 91 8 = J a := (e1 _ _ (by decide)).trans b1
    have d2 : h' 91 9 = J b := (e1 _ _ (by decide)).trans b2
    have t1 := fun {Q} => s345 (E := E) (h := h') (hr := hr) (Q := Q) hn (S := S) (by omega)
    rw [k84_1]
    simp +decide (maxSteps := 4000000) (disch := omega) only [k84_0, k84_2, k84_6, k84_7, k84_8, k84_9, k84_r, k84_s, T_I, F_al0, T_getI, T_shl, F_is1i, F_is1r, F_is1m, F_is2i, F_is2r, F_is2m, T_ft, F_il2, F_il1, T_icge, T_getR, T_mul, T_add, T_sub, T_iast, F_inc2i, F_inc2r, F_inc2m, T_goto, J_iflt, F_is3i, F_is3r, F_is3m, F_il3, F_is4i, F_is4r, F_is4m, F_is5i, F_is5r, F_is5m, F_il5, T_shr, T_and, J_ifne, F_il4, F_inc5i, F_inc5r, F_inc5m, F_inc3i, F_inc3r, F_inc3m, T_ret, c85, c345, c349, ↓s85, ↓s349, FX F, d1, d2, t1, ln_95, show ¬ maW b ≤ S by omega, ↓reduceIte, TK, lt_run hn, le43, Int.le_refl, Int.lt_irrefl, Option.some.injEq, exists_eq_left', true_and, and_true, if_true, if_false, decide_eq_false_iff_not, decide_eq_true_eq, Nat.reduceAdd, Nat.reduceLeDiff, Nat.reduceLT, Int.reduceAdd, Int.reduceSub, Int.reduceMul, Int.reduceNeg, not_true_eq_false, not_false_eq_true]
    refine ih () _ ⟨Ef.sA e1 rfl, fun S' s2 s3 => ?_⟩
    by_cases g : S' = S
    · rw [g, gs_s, bf_i hb (by omega)]
    · rw [gs_k (by omega) (by omega) (by omega)]
      exact e2 S' s2 (by omega)
  rintro _ h1 ⟨e1, e2⟩
  have d1 : h1 91 8 = J a := (e1 _ _ (by decide)).trans b1
  rw [k84_1]
  simp +decide (maxSteps := 4000000) (disch := omega) only [k84_0, k84_2, k84_6, k84_7, k84_8, k84_9, k84_r, k84_s, T_I, F_al0, T_getI, T_shl, F_is1i, F_is1r, F_is1m, F_is2i, F_is2r, F_is2m, T_ft, F_il2, F_il1, T_icge, T_getR, T_mul, T_add, T_sub, T_iast, F_inc2i, F_inc2r, F_inc2m, T_goto, J_iflt, F_is3i, F_is3r, F_is3m, F_il3, F_is4i, F_is4r, F_is4m, F_is5i, F_is5r, F_is5m, F_il5, T_shr, T_and, J_ifne, F_il4, F_inc5i, F_inc5r, F_inc5m, F_inc3i, F_inc3r, F_inc3m, T_ret, c85, c345, c349, ↓s85, ↓s345, ↓s349, FX F, d1, ln_95, ↓reduceIte, TK, lt_run hn, le43, Int.le_refl, Int.lt_irrefl, Option.some.injEq, exists_eq_left', true_and, and_true, if_true, if_false, decide_eq_false_iff_not, decide_eq_true_eq, Nat.reduceAdd, Nat.reduceLeDiff, Nat.reduceLT, Int.reduceAdd, Int.reduceSub, Int.reduceMul, Int.reduceNeg, not_true_eq_false, not_false_eq_true]
  refine T_down (σ := Value × Value × Value) (fun i v => [.ref 91, .int (J (maW b)), .int (J i), v.1, v.2.1, v.2.2]) (fun i _ h' => Ef (fun x _ => x = 95) h h' ∧ maTt C a b h' (i + 1)) (-1) (a - 1) ?_ ?_ (a - 1) (a_mk, a_mk, a_mk) h1 (by omega) (by omega) ⟨e1, fun i' S i0 i1 s0 s1 => ?_⟩
  case refine_3 =>
    rw [show i' = a by omega, show (a - a).toNat = 0 by omega]
    exact e2 S s0 s1
  · rintro i ⟨v3, v4, v5⟩ h' i0 i1 ⟨e1, e2⟩ ih
    dsimp only
    rw [k84_3]
    simp +decide (maxSteps := 4000000) (disch := omega) only [k84_0, k84_2, k84_6, k84_7, k84_8, k84_9, k84_r, k84_s, T_I, F_al0, T_getI, T_shl, F_is1i, F_is1r, F_is1m, F_is2i, F_is2r, F_is2m, T_ft, F_il2, F_il1, T_icge, T_getR, T_mul, T_add, T_sub, T_iast, F_inc2i, F_inc2r, F_inc2m, T_goto, J_iflt, F_is3i, F_is3r, F_is3m, F_il3, F_is4i, F_is4r, F_is4m, F_is5i, F_is5r, F_is5m, F_il5, T_shr, T_and, J_ifne, F_il4, F_inc5i, F_inc5r, F_inc5m, F_inc3i, F_inc3r, F_inc3m, T_ret, c85, c345, c349, ↓s85, ↓s345, ↓s349, FX F, show ¬ i < 0 by omega, show 0 ≤ i by omega, ↓reduceIte, TK, lt_run hn, le43, Int.le_refl, Int.lt_irrefl, Option.some.injEq, exists_eq_left', true_and, and_true, if_true, if_false, decide_eq_false_iff_not, decide_eq_true_eq, Nat.reduceAdd, Nat.reduceLeDiff, Nat.reduceLT, Int.reduceAdd, Int.reduceSub, Int.reduceMul, Int.reduceNeg, not_true_eq_false, not_false_eq_true]
    refine T_for (σ := Value × Value) (fun S v => [.ref 91, .int (J (maW b)), .int (J i), .int (J S), v.1, v.2]) (fun q _ h' => Ef (fun x _ => x = 95) h h' ∧ maTt C a b h' (i + 1) ∧ ∀ S, 0 ≤ S → S < q → gA h' 95 (i * 256 + S) = J (maT C a b (a - i).toNat S)) 0 (maW b) ?_ ?_ 0 (v4, v5) h' (by omega) (by omega) ⟨e1, e2, fun S _ _ => by omega⟩
    · rintro S ⟨v4, v5⟩ h' s0 s1 ⟨e1, e2, e3⟩ ih
      dsimp only
      have d2 : h' 91 9 = J b := (e1 _ _ (by decide)).trans b2
      have cs' : maCs b C a h' := fun i j x1 x2 x3 => by rw [e1.g (by decide)]; exact cs i j x1 x2 x3
      have tt : ∀ j, (0 ≤ j ∧ j < b) ∨ j = 8 → ∀ {Q : ARs → Prop}, Sp E 85 [.ref 91, .int (J i), .int (J j), .int (J S)] h' hr n Q ↔ Q (some (.int (J (maV C (maT C a b (a - i - 1).toNat) i S j))), h', hr, n) := fun j hj {Q} => by
        refine s85 (E := E) (Q := Q) F hn (by omega) (by omega) (by omega) (cs' i j (by omega) (by omega) hj) ?_
        have := e2 (i + 1) (if j = 8 then S else maA S j) (by omega) (by omega)
        rw [show a - (i + 1) = a - i - 1 by omega] at this
        by_cases g8 : j = 8
        · rw [if_pos g8] at this ⊢
          exact this s0 s1
        · rw [if_neg g8] at this ⊢
          have z := maA_r hb (S := S) (j := j) (by omega) (by omega)
          exact this z.1 z.2
      have t8 := fun {Q} => tt 8 (Or.inr rfl) (Q := Q)
      have v8 := hV (a - i - 1).toNat i S 8
      have vv := fun q => maM_r (v := maV C (maT C a b (a - i - 1).toNat) i S) (S := S) (z := maV C (maT C a b (a - i - 1).toNat) i S 8) (fun j => hV (a - i - 1).toNat i S j) v8 q
      rw [k84_4]
      simp +decide (maxSteps := 4000000) (disch := omega) only [k84_0, k84_2, k84_6, k84_7, k84_8, k84_9, k84_r, k84_s, T_I, F_al0, T_getI, T_shl, F_is1i, F_is1r, F_is1m, F_is2i, F_is2r, F_is2m, T_ft, F_il2, F_il1, T_icge, T_getR, T_mul, T_add, T_sub, T_iast, F_inc2i, F_inc2r, F_inc2m, T_goto, J_iflt, F_is3i, F_is3r, F_is3m, F_il3, F_is4i, F_is4r, F_is4m, F_is5i, F_is5r, F_is5m, F_il5, T_shr, T_and, J_ifne, F_il4, F_inc5i, F_inc5r, F_inc5m, F_inc3i, F_inc3r, F_inc3m, T_ret, c85, c345, c349, ↓s345, ↓s349, FX F, t8, show ¬ maW b ≤ S by omega, ↓reduceIte, TK, lt_run hn, le43, Int.le_refl, Int.lt_irrefl, Option.some.injEq, exists_eq_left', true_and, and_true, if_true, if_false, decide_eq_false_iff_not, decide_eq_true_eq, Nat.reduceAdd, Nat.reduceLeDiff, Nat.reduceLT, Int.reduceAdd, Int.reduceSub, Int.reduceMul, Int.reduceNeg, not_true_eq_false, not_false_eq_true]
      refine T_for (σ := Unit) (fun j _ => [.ref 91, .int (J (maW b)), .int (J i), .int (J S), .int (J (maM (maV C (maT C a b (a - i - 1).toNat) i S) S (maV C (maT C a b (a - i - 1).toNat) i S 8) j.toNat)), .int (J j)]) (fun _ _ h'' => h'' = h') 0 b ?_ ?_ 0 () h' (by omega) (by omega) rfl
      · rintro j _ _ j0 j1 rfl ihj
        have tj := fun {Q} => tt j (Or.inl ⟨j0, j1⟩) (Q := Q)
        have vj := hV (a - i - 1).toNat i S j
        have vm := vv j.toNat
        have bt := mbt (S := S) (j := j) (by omega) (by omega)
        have st := maM_s (v := maV C (maT C a b (a - i - 1).toNat) i S) (S := S) (z := maV C (maT C a b (a - i - 1).toNat) i S 8) j0
        by_cases g : maB S j = true
        · rw [if_pos g] at bt st
          rw [k84_5]
          simp +decide (maxSteps := 4000000) (disch := omega) only [k84_0, k84_2, k84_6, k84_7, k84_8, k84_9, k84_r, k84_s, T_I, F_al0, T_getI, T_shl, F_is1i, F_is1r, F_is1m, F_is2i, F_is2r, F_is2m, T_ft, F_il2, F_il1, T_icge, T_getR, T_mul, T_add, T_sub, T_iast, F_inc2i, F_inc2r, F_inc2m, T_goto, J_iflt, F_is3i, F_is3r, F_is3m, F_il3, F_is4i, F_is4r, F_is4m, F_is5i, F_is5r, F_is5m, F_il5, T_shr, T_and, J_ifne, F_il4, F_inc5i, F_inc5r, F_inc5m, F_inc3i, F_inc3r, F_inc3m, T_ret, c85, c345, c349, ↓s345, ↓s349, FX F, d2, bt, show ¬ b ≤ j by omega, ↓reduceIte, TK, lt_run hn, le43, Int.le_refl, Int.lt_irrefl, Option.some.injEq, exists_eq_left', true_and, and_true, if_true, if_false, decide_eq_false_iff_not, decide_eq_true_eq, Nat.reduceAdd, Nat.reduceLeDiff, Nat.reduceLT, Int.reduceAdd, Int.reduceSub, Int.reduceMul, Int.reduceNeg, not_true_eq_false, not_false_eq_true]
          have := ihj () _ rfl
          rw [st] at this
          exact this
        · rw [if_neg g] at bt st
          rw [k84_5]
          simp +decide (maxSteps := 4000000) (disch := omega) only [k84_0, k84_2, k84_6, k84_7, k84_8, k84_9, k84_r, k84_s, T_I, F_al0, T_getI, T_shl, F_is1i, F_is1r, F_is1m, F_is2i, F_is2r, F_is2m, T_ft, F_il2, F_il1, T_icge, T_getR, T_mul, T_add, T_sub, T_iast, F_inc2i, F_inc2r, F_inc2m, T_goto, J_iflt, F_is3i, F_is3r, F_is3m, F_il3, F_is4i, F_is4r, F_is4m, F_is5i, F_is5r, F_is5m, F_il5, T_shr, T_and, J_ifne, F_il4, F_inc5i, F_inc5r, F_inc5m, F_inc3i, F_inc3r, F_inc3m, T_ret, c85, c345, c349, ↓s345, ↓s349, FX F, d2, bt, tj, show ¬ b ≤ j by omega, ↓reduceIte, TK, lt_run hn, le43, Int.le_refl, Int.lt_irrefl, Option.some.injEq, exists_eq_left', true_and, and_true, if_true, if_false, decide_eq_false_iff_not, decide_eq_true_eq, Nat.reduceAdd, Nat.reduceLeDiff, Nat.reduceLT, Int.reduceAdd, Int.reduceSub, Int.reduceMul, Int.reduceNeg, not_true_eq_false, not_false_eq_true]
          have := ihj () _ rfl
          rw [st] at this
          exact this
      · rintro _ _ rfl
        have eT := maT_s (C := C) (b := b) (i := i) (a := a) (by omega) S
        rw [← eT]
        rw [k84_5]
        simp +decide (maxSteps := 4000000) (disch := omega) only [k84_0, k84_2, k84_6, k84_7, k84_8, k84_9, k84_r, k84_s, T_I, F_al0, T_getI, T_shl, F_is1i, F_is1r, F_is1m, F_is2i, F_is2r, F_is2m, T_ft, F_il2, F_il1, T_icge, T_getR, T_mul, T_add, T_sub, T_iast, F_inc2i, F_inc2r, F_inc2m, T_goto, J_iflt, F_is3i, F_is3r, F_is3m, F_il3, F_is4i, F_is4r, F_is4m, F_is5i, F_is5r, F_is5m, F_il5, T_shr, T_and, J_ifne, F_il4, F_inc5i, F_inc5r, F_inc5m, F_inc3i, F_inc3r, F_inc3m, T_ret, c85, c345, c349, ↓s85, ↓s345, ↓s349, FX F, d2, ln_95, ↓reduceIte, TK, lt_run hn, le43, Int.le_refl, Int.lt_irrefl, Option.some.injEq, exists_eq_left', true_and, and_true, if_true, if_false, decide_eq_false_iff_not, decide_eq_true_eq, Nat.reduceAdd, Nat.reduceLeDiff, Nat.reduceLT, Int.reduceAdd, Int.reduceSub, Int.reduceMul, Int.reduceNeg, not_true_eq_false, not_false_eq_true]
        refine ih (_, _) _ ⟨Ef.sA e1 rfl, fun i' S' x0 x1 x2 x3 => ?_, fun S' x2 x3 => ?_⟩
        · rw [gs_k (by omega) (by omega) (by omega)]
          exact e2 i' S' x0 x1 x2 x3
        · by_cases z : S' = S
          · rw [z, gs_s]
          · rw [gs_k (by omega) (by omega) (by omega)]
            exact e3 S' x2 (by omega)
    · rintro ⟨v4, v5⟩ h' ⟨e1, e2, e3⟩
      dsimp only
      rw [k84_4]
      simp +decide (maxSteps := 4000000) (disch := omega) only [k84_0, k84_2, k84_6, k84_7, k84_8, k84_9, k84_r, k84_s, T_I, F_al0, T_getI, T_shl, F_is1i, F_is1r, F_is1m, F_is2i, F_is2r, F_is2m, T_ft, F_il2, F_il1, T_icge, T_getR, T_mul, T_add, T_sub, T_iast, F_inc2i, F_inc2r, F_inc2m, T_goto, J_iflt, F_is3i, F_is3r, F_is3m, F_il3, F_is4i, F_is4r, F_is4m, F_is5i, F_is5r, F_is5m, F_il5, T_shr, T_and, J_ifne, F_il4, F_inc5i, F_inc5r, F_inc5m, F_inc3i, F_inc3r, F_inc3m, T_ret, c85, c345, c349, ↓s85, ↓s345, ↓s349, FX F, ↓reduceIte, TK, lt_run hn, le43, Int.le_refl, Int.lt_irrefl, Option.some.injEq, exists_eq_left', true_and, and_true, if_true, if_false, decide_eq_false_iff_not, decide_eq_true_eq, Nat.reduceAdd, Nat.reduceLeDiff, Nat.reduceLT, Int.reduceAdd, Int.reduceSub, Int.reduceMul, Int.reduceNeg, not_true_eq_false, not_false_eq_true]
      refine ih (_, _, _) _ ⟨e1, fun i' S' x0 x1 x2 x3 => ?_⟩
      by_cases z : i' = i
      · rw [z]
        exact e3 S' x2 x3
      · exact e2 i' S' (by omega) x1 x2 x3
  · rintro ⟨v3, v4, v5⟩ h' ⟨e1, e2⟩
    dsimp only
    rw [k84_3]
    simp +decide (maxSteps := 4000000) (disch := omega) only [k84_0, k84_2, k84_6, k84_7, k84_8, k84_9, k84_r, k84_s, T_I, F_al0, T_getI, T_shl, F_is1i, F_is1r, F_is1m, F_is2i, F_is2r, F_is2m, T_ft, F_il2, F_il1, T_icge, T_getR, T_mul, T_add, T_sub, T_iast, F_inc2i, F_inc2r, F_inc2m, T_goto, J_iflt, F_is3i, F_is3r, F_is3m, F_il3, F_is4i, F_is4r, F_is4m, F_is5i, F_is5r, F_is5m, F_il5, T_shr, T_and, J_ifne, F_il4, F_inc5i, F_inc5r, F_inc5m, F_inc3i, F_inc3r, F_inc3m, T_ret, c85, c345, c349, ↓s85, ↓s345, ↓s349, FX F, ↓reduceIte, TK, lt_run hn, le43, Int.le_refl, Int.lt_irrefl, Option.some.injEq, exists_eq_left', true_and, and_true, if_true, if_false, decide_eq_false_iff_not, decide_eq_true_eq, Nat.reduceAdd, Nat.reduceLeDiff, Nat.reduceLT, Int.reduceAdd, Int.reduceSub, Int.reduceMul, Int.reduceNeg, not_true_eq_false, not_false_eq_true]
    exact k h' e1 (fun i' S' x0 x1 x2 x3 => e2 i' S' (by omega) x1 x2 x3)
theorem maX_r (hb : 0 ≤ b ∧ b ≤ 8) (i S : Int) : (0 ≤ maX C a b i S ∧ maX C a b i S < b) ∨ maX C a b i S = 8 := by
  have d := maD_at (fun j => !maB S j && decide (maV C (maT C a b (a - i - 1).toNat) i S j = maT C a b (a - i).toNat S)) b.toNat 8
  unfold maX
  rcases d with ⟨j, d1, _, _, d2⟩ | ⟨_, d2⟩
  · rw [d2]
    omega
  · rw [d2]
    omega
theorem maS_s (x : Int → Int → Int) {i : Int} (h : 0 ≤ i) : maS x (i + 1).toNat = if x i (maS x i.toNat) < 8 then maA (maS x i.toNat) (x i (maS x i.toNat)) else maS x i.toNat := by
  rw [show (i + 1).toNat = i.toNat + 1 by omega]
  show (if x (i.toNat : Int) _ < 8 then maA _ (x (i.toNat : Int) _) else _) = _
  rw [Int.toNat_of_nonneg h]
theorem maS_r (hb : 0 ≤ b ∧ b ≤ 8) : ∀ i : Nat, 0 ≤ maS (maX C a b) i ∧ maS (maX C a b) i < maW b := by
  have w := maW_r hb
  intro i
  induction i with
  | zero => exact ⟨Int.le_refl _, by show (0 : Int) < maW b; omega⟩
  | succ i ih =>
    have r := maX_r (C := C) (a := a) hb i (maS (maX C a b) i)
    have e : maS (maX C a b) (i + 1) = if maX C a b i (maS (maX C a b) i) < 8 then maA (maS (maX C a b) i) (maX C a b i (maS (maX C a b) i)) else maS (maX C a b) i := rfl
    rw [e]
    by_cases g : maX C a b i (maS (maX C a b) i) < 8
    · rw [if_pos g]
      exact maA_r hb ih (by omega)
    · rw [if_neg g]
      exact ih
theorem w86 (F : FH hr) (hn : 775 ≤ n) (V : maVr C a b) (b1 : h 91 8 = J a) (b2 : h 91 9 = J b) (cs : maCs b C a h) (tt : maTt C a b h 0)
    (k : ∀ h', Ef (fun x _ => x = 96) h h' → (∀ i, 0 ≤ i → i < a → gA h' 96 i = J (maX C a b i (maS (maX C a b) i.toNat))) → Q (none, h', hr, n)) : Sp E 86 [.ref 91] h hr n Q := by
  obtain ⟨ha, hb, hV, hT⟩ := V
  have w := maW_r hb
  have hS := maS_r (C := C) (a := a) hb
  simp +decide (maxSteps := 4000000) (disch := omega) only [k86_0, k86_3, k86_4, k86_5, k86_6, k86_r, k86_s, T_I, F_is1i, F_is1r, F_is1m, F_is2i, F_is2r, F_is2m, T_ft, F_il2, F_al0, T_getI, T_icge, F_is3i, F_is3r, F_is3m, T_sub, F_is4i, F_is4r, F_is4m, F_il4, J_iflt, F_il1, T_shr, T_and, J_ifne, T_getR, T_mul, T_add, X_iald, J_icne, F_inc4i, F_inc4r, F_inc4m, T_goto, F_il3, T_iast, T_shl, T_or, F_inc2i, F_inc2r, F_inc2m, T_ret, c85, ↓s85, FX F, ↓reduceIte, TK, lt_run hn, le43, Int.le_refl, Int.lt_irrefl, Option.some.injEq, exists_eq_left', true_and, and_true, if_true, if_false, decide_eq_false_iff_not, decide_eq_true_eq, Nat.reduceAdd, Nat.reduceLeDiff, Nat.reduceLT, Int.reduceAdd, Int.reduceSub, Int.reduceMul, Int.reduceNeg, not_true_eq_false, not_false_eq_true]
  refine T_for (σ := Value × Value) (fun i v => [.ref 91, .int (J (maS (maX C a b) i.toNat)), .int (J i), v.1, v.2]) (fun i _ h' => Ef (fun x _ => x = 96) h h' ∧ ∀ i', 0 ≤ i' → i' < i → gA h' 96 i' = J (maX C a b i' (maS (maX C a b) i'.toNat))) 0 a ?_ ?_ 0 (a_mk, a_mk) h (by omega) (by omega) ⟨Ef.refl, fun i' _ _ => by omega⟩
  · rintro i ⟨v3, v4⟩ h' i0 i1 ⟨e1, e2⟩ ih
    dsimp only
    have d1 : h' 91 8 = J a := (e1 _ _ (by decide)).trans b1
    have d2 : h' 91 9 = J b := (e1 _ _ (by decide)).trans b2
    have sr := hS i.toNat
    have ss := maS_s (maX C a b) i0
    have xr := maX_r (C := C) (a := a) hb i (maS (maX C a b) i.toNat)
    have xe : maX C a b i (maS (maX C a b) i.toNat) = maD (fun j => !maB (maS (maX C a b) i.toNat) j && decide (maV C (maT C a b (a - i - 1).toNat) i (maS (maX C a b) i.toNat) j = maT C a b (a - i).toNat (maS (maX C a b) i.toNat))) b.toNat 8 := rfl
    generalize hSS : maS (maX C a b) i.toNat = S at *
    rw [k86_1]
    simp +decide (maxSteps := 4000000) (disch := omega) only [k86_0, k86_3, k86_4, k86_5, k86_6, k86_r, k86_s, T_I, F_is1i, F_is1r, F_is1m, F_is2i, F_is2r, F_is2m, T_ft, F_il2, F_al0, T_getI, T_icge, F_is3i, F_is3r, F_is3m, T_sub, F_is4i, F_is4r, F_is4m, F_il4, J_iflt, F_il1, T_shr, T_and, J_ifne, T_getR, T_mul, T_add, X_iald, J_icne, F_inc4i, F_inc4r, F_inc4m, T_goto, F_il3, T_iast, T_shl, T_or, F_inc2i, F_inc2r, F_inc2m, T_ret, c85, ↓s85, FX F, d1, d2, show ¬ a ≤ i by omega, ↓reduceIte, TK, lt_run hn, le43, Int.le_refl, Int.lt_irrefl, Option.some.injEq, exists_eq_left', true_and, and_true, if_true, if_false, decide_eq_false_iff_not, decide_eq_true_eq, Nat.reduceAdd, Nat.reduceLeDiff, Nat.reduceLT, Int.reduceAdd, Int.reduceSub, Int.reduceMul, Int.reduceNeg, not_true_eq_false, not_false_eq_true]
    refine T_down (σ := Int) (fun j p => [.ref 91, .int (J S), .int (J i), .int (J p), .int (J j)]) (fun j p h'' => h'' = h' ∧ maX C a b i S = maD (fun j => !maB S j && decide (maV C (maT C a b (a - i - 1).toNat) i S j = maT C a b (a - i).toNat S)) (j + 1).toNat p) (-1) (b - 1) ?_ ?_ (b - 1) 8 h' (by omega) (by omega) ⟨rfl, by rw [show b - 1 + 1 = b by omega]; exact xe⟩
    · rintro j p h2 j0 j1 ⟨rfl, px⟩ ihj
      rw [maD_s (by omega)] at px
      have bt := mbt (S := S) (j := j) (by omega) (by omega)
      by_cases g : maB S j = true
      · rw [if_pos g] at bt
        rw [if_neg (by rw [g, Bool.not_true, Bool.false_and]; decide)] at px
        rw [k86_2]
        simp +decide (maxSteps := 4000000) (disch := omega) only [k86_0, k86_3, k86_4, k86_5, k86_6, k86_r, k86_s, T_I, F_is1i, F_is1r, F_is1m, F_is2i, F_is2r, F_is2m, T_ft, F_il2, F_al0, T_getI, T_icge, F_is3i, F_is3r, F_is3m, T_sub, F_is4i, F_is4r, F_is4m, F_il4, J_iflt, F_il1, T_shr, T_and, J_ifne, T_getR, T_mul, T_add, X_iald, J_icne, F_inc4i, F_inc4r, F_inc4m, T_goto, F_il3, T_iast, T_shl, T_or, F_inc2i, F_inc2r, F_inc2m, T_ret, c85, FX F, bt, show ¬ j < 0 by omega, show 0 ≤ j by omega, ↓reduceIte, TK, lt_run hn, le43, Int.le_refl, Int.lt_irrefl, Option.some.injEq, exists_eq_left', true_and, and_true, if_true, if_false, decide_eq_false_iff_not, decide_eq_true_eq, Nat.reduceAdd, Nat.reduceLeDiff, Nat.reduceLT, Int.reduceAdd, Int.reduceSub, Int.reduceMul, Int.reduceNeg, not_true_eq_false, not_false_eq_true]
        refine ihj _ _ ⟨rfl, ?_⟩
        rw [show j - 1 + 1 = j by omega]
        exact px
      · rw [if_neg g] at bt
        have g0 : maB S j = false := by simpa using g
        have tj := fun {Q} => s85 (E := E) (Q := Q) (h := h2) F hn (C := C) (t := maT C a b (a - i - 1).toNat) (i := i) (j := j) (S := S) (by omega) (by omega) (by omega) (by rw [e1.g (by decide)]; exact cs i j i0 i1 (Or.inl (by omega))) (by
          have z := maA_r hb (S := S) (j := j) (by omega) (by omega)
          rw [if_neg (by omega), e1.g (by decide), show a - i - 1 = a - (i + 1) by omega]
          exact tt (i + 1) _ (by omega) (by omega) z.1 z.2)
        have vj := hV (a - i - 1).toNat i S j
        have tr := hT (a - i).toNat S
        have tl : gA h2 95 (i * 256 + S) = J (maT C a b (a - i).toNat S) := by
          rw [e1.g (by decide)]
          exact tt i S i0 (by omega) (by omega) (by omega)
        rw [g0, Bool.not_false, Bool.true_and] at px
        by_cases q : maV C (maT C a b (a - i - 1).toNat) i S j = maT C a b (a - i).toNat S
        · rw [decide_eq_true q, if_pos (by decide)] at px
          rw [k86_2]
          simp +decide (maxSteps := 4000000) (disch := omega) only [k86_0, k86_3, k86_4, k86_5, k86_6, k86_r, k86_s, T_I, F_is1i, F_is1r, F_is1m, F_is2i, F_is2r, F_is2m, T_ft, F_il2, F_al0, T_getI, T_icge, F_is3i, F_is3r, F_is3m, T_sub, F_is4i, F_is4r, F_is4m, F_il4, J_iflt, F_il1, T_shr, T_and, J_ifne, T_getR, T_mul, T_add, X_iald, J_icne, F_inc4i, F_inc4r, F_inc4m, T_goto, F_il3, T_iast, T_shl, T_or, F_inc2i, F_inc2r, F_inc2m, T_ret, c85, FX F, bt, tj, tl, q, ln_95, show ¬ j < 0 by omega, show 0 ≤ j by omega, ↓reduceIte, TK, lt_run hn, le43, Int.le_refl, Int.lt_irrefl, Option.some.injEq, exists_eq_left', true_and, and_true, if_true, if_false, decide_eq_false_iff_not, decide_eq_true_eq, Nat.reduceAdd, Nat.reduceLeDiff, Nat.reduceLT, Int.reduceAdd, Int.reduceSub, Int.reduceMul, Int.reduceNeg, not_true_eq_false, not_false_eq_true]
          refine ihj _ _ ⟨rfl, ?_⟩
          rw [show j - 1 + 1 = j by omega]
          exact px
        · rw [decide_eq_false q, if_neg (by decide)] at px
          rw [k86_2]
          simp +decide (maxSteps := 4000000) (disch := omega) only [k86_0, k86_3, k86_4, k86_5, k86_6, k86_r, k86_s, T_I, F_is1i, F_is1r, F_is1m, F_is2i, F_is2r, F_is2m, T_ft, F_il2, F_al0, T_getI, T_icge, F_is3i, F_is3r, F_is3m, T_sub, F_is4i, F_is4r, F_is4m, F_il4, J_iflt, F_il1, T_shr, T_and, J_ifne, T_getR, T_mul, T_add, X_iald, J_icne, F_inc4i, F_inc4r, F_inc4m, T_goto, F_il3, T_iast, T_shl, T_or, F_inc2i, F_inc2r, F_inc2m, T_ret, c85, FX F, bt, tj, tl, q, ln_95, show ¬ j < 0 by omega, show 0 ≤ j by omega, ↓reduceIte, TK, lt_run hn, le43, Int.le_refl, Int.lt_irrefl, Option.some.injEq, exists_eq_left', true_and, and_true, if_true, if_false, decide_eq_false_iff_not, decide_eq_true_eq, Nat.reduceAdd, Nat.reduceLeDiff, Nat.reduceLT, Int.reduceAdd, Int.reduceSub, Int.reduceMul, Int.reduceNeg, not_true_eq_false, not_false_eq_true]
          refine ihj _ _ ⟨rfl, ?_⟩
          rw [show j - 1 + 1 = j by omega]
          exact px
    · rintro p h2 ⟨rfl, px⟩
      rw [show (-1 + 1 : Int).toNat = 0 from rfl] at px
      change maX C a b i S = p at px
      rw [← px]
      have core : Ef (fun x _ => x = 96) h (sA h2 96 i (J (maX C a b i S))) ∧ ∀ i', 0 ≤ i' → i' < i + 1 → gA (sA h2 96 i (J (maX C a b i S))) 96 i' = J (maX C a b i' (maS (maX C a b) i'.toNat)) := by
        refine ⟨Ef.sA e1 rfl, fun i' x0 x1 => ?_⟩
        by_cases z : i' = i
        · rw [z, gs_s, hSS]
        · rw [gs_k (by omega) (by omega) (by omega)]
          exact e2 i' x0 (by omega)
      by_cases g8 : maX C a b i S < 8
      · rw [if_pos g8] at ss
        have o1 := mor (S := S) (j := maX C a b i S) (by omega) (by omega)
        rw [k86_2]
        simp +decide (maxSteps := 4000000) (disch := omega) only [k86_0, k86_3, k86_4, k86_5, k86_6, k86_r, k86_s, T_I, F_is1i, F_is1r, F_is1m, F_is2i, F_is2r, F_is2m, T_ft, F_il2, F_al0, T_getI, T_icge, F_is3i, F_is3r, F_is3m, T_sub, F_is4i, F_is4r, F_is4m, F_il4, J_iflt, F_il1, T_shr, T_and, J_ifne, T_getR, T_mul, T_add, X_iald, J_icne, F_inc4i, F_inc4r, F_inc4m, T_goto, F_il3, T_iast, T_shl, T_or, F_inc2i, F_inc2r, F_inc2m, T_ret, c85, ↓s85, FX F, ln_96, o1, g8, show ¬ 8 ≤ maX C a b i S by omega, ↓reduceIte, TK, lt_run hn, le43, Int.le_refl, Int.lt_irrefl, Option.some.injEq, exists_eq_left', true_and, and_true, if_true, if_false, decide_eq_false_iff_not, decide_eq_true_eq, Nat.reduceAdd, Nat.reduceLeDiff, Nat.reduceLT, Int.reduceAdd, Int.reduceSub, Int.reduceMul, Int.reduceNeg, not_true_eq_false, not_false_eq_true]
        have := ih (.int (J (maX C a b i S)), .int (J (-1))) _ core
        dsimp only at this
        rw [ss] at this
        exact this
      · rw [if_neg g8] at ss
        rw [k86_2]
        simp +decide (maxSteps := 4000000) (disch := omega) only [k86_0, k86_3, k86_4, k86_5, k86_6, k86_r, k86_s, T_I, F_is1i, F_is1r, F_is1m, F_is2i, F_is2r, F_is2m, T_ft, F_il2, F_al0, T_getI, T_icge, F_is3i, F_is3r, F_is3m, T_sub, F_is4i, F_is4r, F_is4m, F_il4, J_iflt, F_il1, T_shr, T_and, J_ifne, T_getR, T_mul, T_add, X_iald, J_icne, F_inc4i, F_inc4r, F_inc4m, T_goto, F_il3, T_iast, T_shl, T_or, F_inc2i, F_inc2r, F_inc2m, T_ret, c85, ↓s85, FX F, ln_96, g8, show 8 ≤ maX C a b i S by omega, ↓reduceIte, TK, lt_run hn, le43, Int.le_refl, Int.lt_irrefl, Option.some.injEq, exists_eq_left', true_and, and_true, if_true, if_false, decide_eq_false_iff_not, decide_eq_true_eq, Nat.reduceAdd, Nat.reduceLeDiff, Nat.reduceLT, Int.reduceAdd, Int.reduceSub, Int.reduceMul, Int.reduceNeg, not_true_eq_false, not_false_eq_true]
        have := ih (.int (J (maX C a b i S)), .int (J (-1))) _ core
        dsimp only at this
        rw [ss] at this
        exact this
  · rintro ⟨v3, v4⟩ h' ⟨e1, e2⟩
    dsimp only
    have d1 : h' 91 8 = J a := (e1 _ _ (by decide)).trans b1
    rw [k86_1]
    simp +decide (maxSteps := 4000000) (disch := omega) only [k86_0, k86_3, k86_4, k86_5, k86_6, k86_r, k86_s, T_I, F_is1i, F_is1r, F_is1m, F_is2i, F_is2r, F_is2m, T_ft, F_il2, F_al0, T_getI, T_icge, F_is3i, F_is3r, F_is3m, T_sub, F_is4i, F_is4r, F_is4m, F_il4, J_iflt, F_il1, T_shr, T_and, J_ifne, T_getR, T_mul, T_add, X_iald, J_icne, F_inc4i, F_inc4r, F_inc4m, T_goto, F_il3, T_iast, T_shl, T_or, F_inc2i, F_inc2r, F_inc2m, T_ret, c85, ↓s85, FX F, d1, ↓reduceIte, TK, lt_run hn, le43, Int.le_refl, Int.lt_irrefl, Option.some.injEq, exists_eq_left', true_and, and_true, if_true, if_false, decide_eq_false_iff_not, decide_eq_true_eq, Nat.reduceAdd, Nat.reduceLeDiff, Nat.reduceLT, Int.reduceAdd, Int.reduceSub, Int.reduceMul, Int.reduceNeg, not_true_eq_false, not_false_eq_true]
    exact k h' e1 e2
end MC
