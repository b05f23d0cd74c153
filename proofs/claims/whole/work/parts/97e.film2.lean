/-! film: a frame is added -/
section FJ
variable {E : AEn} {h h' : AHi} {hr : AHr} {n : Nat} {Q : ARs → Prop} {l : List Int} {A B : Pic}
def Saf (t : Int) (x k : Nat) : Prop := Sw 775 x k ∨ x = 141 ∨ x = 144 + t.toNat ∨ (x = 113 ∧ k = 10)
theorem enc_z (A B : Pic) (k : Nat) : enc A B 1536 k = [] := by
  cases k with
  | zero => rfl
  | succ k =>
    show (if (1536 : Int) < 1536 then _ else []) = []
    rw [if_neg (by decide)]
theorem la2 (l m : List Int) : ((l ++ m).length : Int) = (l.length : Int) + m.length := by
  rw [List.length_append, Int.natCast_add]
theorem pxl_s {p j : Int} (h : 0 ≤ j) : pxl A p (j + 1).toNat = pxl A p j.toNat ++ pxB (A (p + j)) := by
  rw [show (j + 1).toNat = j.toNat + 1 by omega]
  show _ ++ pxB (A (p + (j.toNat : Int))) = _
  rw [Int.toNat_of_nonneg h]
theorem w106 (F : FH hr) (hn : 775 ≤ n) (O : Or E hr n 775 49264) {g : Nat} (G : AR E g) (g0 : 128 ≤ g ∧ g ≤ 137) (P1 : PA h g A) (P2 : PA h 141 B) (R1 : pcR A) (R2 : pcR B) (C : OC h 775 l) (hl : (l.length : Int) + 6158 ≤ 49264) {t : Int} (ht : 0 ≤ t ∧ t < 8) (c10 : h 113 10 = J t)
    (k : ∀ h', OC h' 775 (l ++ enc A B 0 1536) → PA h' 141 A → PA h' (144 + t.toNat) A → h' 113 10 = J (t + 1) → Ef (Saf t) h h' → Q (none, h', hr, n)) : Sp E 106 [.ref 113, .ref g, .ref 46] h hr n Q := by
  have G0 := G
  obtain ⟨g1, g2, g3, g4⟩ := G
  have o1 := O.1.2.2.2.1
  have el := enc_6 A B 1536
  have x1 := X143 E F ht.1 ht.2
  have l1 := ln_141 E
  have fr : ∀ {h'}, Ef (Sw 775) h h' → PA h' g A ∧ PA h' 141 B ∧ h' 113 10 = J t := fun q => ⟨P1.ef q (fun k z => by unfold Sw at z; omega), P2.ef q (fun k z => by unfold Sw at z; omega), (q _ _ (fun z => by unfold Sw at z; omega)).trans c10⟩
  have fin : ∀ h1 v3 v4 v5 v6 v7, Ef (Sw 775) h h1 → OC h1 775 (l ++ enc A B 0 1536) → Tm E 106 (a_bl 106 5) [.ref 113, .ref g, .ref 46, .int v3, .int v4, v5, v6, v7] [] h1 hr n Q := fun h1 v3 v4 v5 v6 v7 e1 C1 => by
    obtain ⟨p1, p2, p3⟩ := fr e1
    have q1 : cpA h1 g 0 141 0 1536 113 10 = J t := by rw [cp_o (by decide)]; exact p3
    have q2 : ∀ b, b ≠ 113 → cpA (cpA h1 g 0 141 0 1536) g 0 b 0 1536 113 10 = J t := fun b hb => by rw [cp_o (fun z => hb z.symm)]; exact q1
    have q3 := q2 (144 + t.toNat) (by omega)
    rw [k106_5]
    simp +decide (maxSteps := 4000000) (disch := omega) only [k106_0, k106_1, k106_4, k106_5, k106_r, k106_s, F_al0, T_getI, T_I, T_iclt, T_ret, F_is3i, F_is3r, F_is3m, F_is4i, F_is4r, F_is4m, T_ft, F_il4, T_icge, F_il3, F_al1, F_is5i, F_is5r, F_is5m, F_il5, T_add, F_is6i, F_is6r, F_is6m, F_al2, F_il6, F_is7i, F_is7r, F_is7m, F_il7, X_iald, F_inc3i, F_inc3r, F_inc3m, F_inc7i, F_inc7r, F_inc7m, T_goto, F_inc4i, F_inc4r, F_inc4m, T_getR, J_cp, X_aald, T_dupI, T_dupR, T_putI, T_putZ, c11, c107, c108, ↓s11, FX F, g1, g2, q1, q3, x1, kd_141, kd_143, ln_143, ↓reduceIte, TK, lt_run hn, le43, Int.le_refl, Int.lt_irrefl, Option.some.injEq, exists_eq_left', true_and, and_true, if_true, if_false, decide_eq_false_iff_not, decide_eq_true_eq, Nat.reduceAdd, Nat.reduceLeDiff, Nat.reduceLT, Int.reduceAdd, Int.reduceSub, Int.reduceMul, Int.reduceNeg, not_true_eq_false, not_false_eq_true]
    refine k _ ⟨?_, fun i i0 i1 => ?_⟩ (fun q q0 q1 => ?_) (fun q q0 q1 => ?_) hI_s ?_
    · rw [hI_o (by decide), cp_o (by omega), cp_o (by decide)]
      exact C1.1
    · rw [gA_o (by decide), cp_go (by omega), cp_go (by decide)]
      exact C1.2 i i0 i1
    · rw [gA_o (by decide), cp_go (by omega), cp_g (by decide) (by decide) (by decide) q0, if_pos (by omega), show 0 + (q - 0) = q by omega]
      exact p1 q q0 q1
    · rw [gA_o (by omega), cp_g (by decide) (by decide) (by decide) q0, if_pos (by omega), show 0 + (q - 0) = q by omega, cp_go (by omega)]
      exact p1 q q0 q1
    · exact Ef.hI (cp_e (cp_e (e1.mono fun x k q => Or.inl q) (fun k => Or.inr (Or.inl rfl))) (fun k => Or.inr (Or.inr (Or.inl rfl)))) (Or.inr (Or.inr (Or.inr ⟨rfl, rfl⟩)))
  simp +decide (maxSteps := 4000000) (disch := omega) only [k106_0, k106_1, k106_4, k106_5, k106_r, k106_s, F_al0, T_getI, T_I, T_iclt, T_ret, F_is3i, F_is3r, F_is3m, F_is4i, F_is4r, F_is4m, T_ft, F_il4, T_icge, F_il3, F_al1, F_is5i, F_is5r, F_is5m, F_il5, T_add, F_is6i, F_is6r, F_is6m, F_al2, F_il6, F_is7i, F_is7r, F_is7m, F_il7, X_iald, F_inc3i, F_inc3r, F_inc3m, F_inc7i, F_inc7r, F_inc7m, T_goto, F_inc4i, F_inc4r, F_inc4m, T_getR, J_cp, X_aald, T_dupI, T_dupR, T_putI, T_putZ, c11, c107, c108, ↓s11, FX F, c10, show ¬ 8 ≤ t by omega, show t < 8 by omega, ↓reduceIte, TK, lt_run hn, le43, Int.le_refl, Int.lt_irrefl, Option.some.injEq, exists_eq_left', true_and, and_true, if_true, if_false, decide_eq_false_iff_not, decide_eq_true_eq, Nat.reduceAdd, Nat.reduceLeDiff, Nat.reduceLT, Int.reduceAdd, Int.reduceSub, Int.reduceMul, Int.reduceNeg, not_true_eq_false, not_false_eq_true]
  refine T_for (σ := Int × List Int × Value × Value × Value) (fun i v => [.ref 113, .ref g, .ref 46, .int (J v.1), .int (J i), v.2.2.1, v.2.2.2.1, v.2.2.2.2]) (fun i v h' => Ef (Sw 775) h h' ∧ OC h' 775 v.2.1 ∧ v.2.1 ++ enc A B v.1 (1536 - i).toNat = l ++ enc A B 0 1536 ∧ i ≤ v.1 ∧ v.1 ≤ 1536) 0 1536 ?_ ?_ 0 (0, l, a_mk, a_mk, a_mk) h (by omega) (by omega) ⟨Ef.refl, C, rfl, Int.le_refl _, by show (0 : Int) ≤ 1536; decide⟩
  · rintro i ⟨p, m, v5, v6, v7⟩ h1 i0 i1 ⟨e1, C1, c1, c2, c3⟩ ih
    dsimp only at C1 c1 c2 c3 ⊢
    obtain ⟨p1, p2, p3⟩ := fr e1
    by_cases z : p = 1536
    · subst z
      rw [enc_z, List.append_nil] at c1
      rw [c1] at C1
      rw [k106_2]
      simp +decide (maxSteps := 4000000) (disch := omega) only [k106_0, k106_1, k106_4, k106_r, k106_s, F_al0, T_getI, T_I, T_iclt, T_ret, F_is3i, F_is3r, F_is3m, F_is4i, F_is4r, F_is4m, T_ft, F_il4, T_icge, F_il3, F_al1, F_is5i, F_is5r, F_is5m, F_il5, T_add, F_is6i, F_is6r, F_is6m, F_al2, F_il6, F_is7i, F_is7r, F_is7m, F_il7, X_iald, F_inc3i, F_inc3r, F_inc3m, F_inc7i, F_inc7r, F_inc7m, T_goto, F_inc4i, F_inc4r, F_inc4m, T_getR, J_cp, X_aald, T_dupI, T_dupR, T_putI, T_putZ, c11, c107, c108, ↓s11, show ¬ 1536 ≤ i by omega, ↓reduceIte, TK, lt_run hn, le43, Int.le_refl, Int.lt_irrefl, Option.some.injEq, exists_eq_left', true_and, and_true, if_true, if_false, decide_eq_false_iff_not, decide_eq_true_eq, Nat.reduceAdd, Nat.reduceLeDiff, Nat.reduceLT, Int.reduceAdd, Int.reduceSub, Int.reduceMul, Int.reduceNeg, not_true_eq_false, not_false_eq_true]
      exact fin h1 _ _ _ _ _ e1 C1
    have rs := rnn_r (A := A) (B := B) true 255 p c3
    have ro := rnn_r (A := A) (B := B) false 255 (p + rnn A B true p 255) rs.2.2
    have ss : decide (A p = B p) = true → 1 ≤ rnn A B true p 255 := rnn_1 (k := 254) true (by omega)
    have s2 : decide (A p = B p) = false → 1 ≤ rnn A B false p 255 := rnn_1 (k := 254) false (by omega)
    have prog : 1 ≤ rnn A B true p 255 + rnn A B false (p + rnn A B true p 255) 255 := by
      by_cases w : A p = B p
      · have := ss (decide_eq_true w)
        omega
      · by_cases w2 : rnn A B true p 255 = 0
        · rw [w2, Int.add_zero]
          have := s2 (decide_eq_false w)
          omega
        · omega
    have ee : enc A B p (1536 - i).toNat = [rnn A B true p 255, rnn A B false (p + rnn A B true p 255) 255] ++ pxl A (p + rnn A B true p 255) (rnn A B false (p + rnn A B true p 255) 255).toNat ++ enc A B (p + rnn A B true p 255 + rnn A B false (p + rnn A B true p 255) 255) (1536 - (i + 1)).toNat := by
      rw [show (1536 - i).toNat = (1536 - (i + 1)).toNat + 1 by omega]
      show (if p < 1536 then _ else _) = _
      rw [if_pos (by omega)]
    rw [ee] at c1
    have len : (m.length : Int) + 2 + (pxl A (p + rnn A B true p 255) (rnn A B false (p + rnn A B true p 255) 255).toNat).length ≤ 49264 := by
      have := congrArg (fun z : List Int => (z.length : Int)) c1
      rw [la2, la2, la2, la2] at this
      have e2 : (([rnn A B true p 255, rnn A B false (p + rnn A B true p 255) 255] : List Int).length : Int) = 2 := rfl
      rw [e2] at this
      omega
    have bt : J 1 = Bz true := rfl
    have bf : J 0 = Bz false := rfl
    rw [k106_2]
    simp +decide (maxSteps := 4000000) (disch := omega) only [k106_0, k106_1, k106_4, k106_5, k106_r, k106_s, F_al0, T_getI, T_I, T_iclt, T_ret, F_is3i, F_is3r, F_is3m, F_is4i, F_is4r, F_is4m, T_ft, F_il4, T_icge, F_il3, F_al1, F_is5i, F_is5r, F_is5m, F_il5, T_add, F_is6i, F_is6r, F_is6m, F_al2, F_il6, F_is7i, F_is7r, F_is7m, F_il7, X_iald, F_inc3i, F_inc3r, F_inc3m, F_inc7i, F_inc7r, F_inc7m, T_goto, F_inc4i, F_inc4r, F_inc4m, T_getR, J_cp, X_aald, T_dupI, T_dupR, T_putI, T_putZ, c11, c107, c108, ↓s11, FX F, G0.1, show ¬ 1536 ≤ i by omega, show ¬ 1536 ≤ p by omega, ↓reduceIte, TK, lt_run hn, le43, Int.le_refl, Int.lt_irrefl, Option.some.injEq, exists_eq_left', true_and, and_true, if_true, if_false, decide_eq_false_iff_not, decide_eq_true_eq, Nat.reduceAdd, Nat.reduceLeDiff, Nat.reduceLT, Int.reduceAdd, Int.reduceSub, Int.reduceMul, Int.reduceNeg, not_true_eq_false, not_false_eq_true]
    rw [bt]
    refine w107 F hn G0 p1 p2 R1 R2 ⟨by omega, c3⟩ ?_
    simp +decide (maxSteps := 4000000) (disch := omega) only [k106_0, k106_1, k106_4, k106_5, k106_r, k106_s, F_al0, T_getI, T_I, T_iclt, T_ret, F_is3i, F_is3r, F_is3m, F_is4i, F_is4r, F_is4m, T_ft, F_il4, T_icge, F_il3, F_al1, F_is5i, F_is5r, F_is5m, F_il5, T_add, F_is6i, F_is6r, F_is6m, F_al2, F_il6, F_is7i, F_is7r, F_is7m, F_il7, X_iald, F_inc3i, F_inc3r, F_inc3m, F_inc7i, F_inc7r, F_inc7m, T_goto, F_inc4i, F_inc4r, F_inc4m, T_getR, J_cp, X_aald, T_dupI, T_dupR, T_putI, T_putZ, c11, c107, c108, ↓s11, FX F, g1, ↓reduceIte, TK, lt_run hn, le43, Int.le_refl, Int.lt_irrefl, Option.some.injEq, exists_eq_left', true_and, and_true, if_true, if_false, decide_eq_false_iff_not, decide_eq_true_eq, Nat.reduceAdd, Nat.reduceLeDiff, Nat.reduceLT, Int.reduceAdd, Int.reduceSub, Int.reduceMul, Int.reduceNeg, not_true_eq_false, not_false_eq_true]
    rw [bf]
    refine w107 F hn G0 p1 p2 R1 R2 ⟨by omega, rs.2.2⟩ ?_
    generalize hs : rnn A B true p 255 = s at *
    generalize ho : rnn A B false (p + s) 255 = o at *
    simp +decide (maxSteps := 4000000) (disch := omega) only [k106_0, k106_1, k106_4, k106_5, k106_r, k106_s, F_al0, T_getI, T_I, T_iclt, T_ret, F_is3i, F_is3r, F_is3m, F_is4i, F_is4r, F_is4m, T_ft, F_il4, T_icge, F_il3, F_al1, F_is5i, F_is5r, F_is5m, F_il5, T_add, F_is6i, F_is6r, F_is6m, F_al2, F_il6, F_is7i, F_is7r, F_is7m, F_il7, X_iald, F_inc3i, F_inc3r, F_inc3m, F_inc7i, F_inc7r, F_inc7m, T_goto, F_inc4i, F_inc4r, F_inc4m, T_getR, J_cp, X_aald, T_dupI, T_dupR, T_putI, T_putZ, c11, c107, c108, ↓s11, kd_46, o1, ↓reduceIte, TK, lt_run hn, le43, Int.le_refl, Int.lt_irrefl, Option.some.injEq, exists_eq_left', true_and, and_true, if_true, if_false, decide_eq_false_iff_not, decide_eq_true_eq, Nat.reduceAdd, Nat.reduceLeDiff, Nat.reduceLT, Int.reduceAdd, Int.reduceSub, Int.reduceMul, Int.reduceNeg, not_true_eq_false, not_false_eq_true]
    refine w11 O C1 (by omega) (fun h2 C2 e2 => ?_)
    simp +decide (maxSteps := 4000000) (disch := omega) only [k106_0, k106_1, k106_4, k106_5, k106_r, k106_s, F_al0, T_getI, T_I, T_iclt, T_ret, F_is3i, F_is3r, F_is3m, F_is4i, F_is4r, F_is4m, T_ft, F_il4, T_icge, F_il3, F_al1, F_is5i, F_is5r, F_is5m, F_il5, T_add, F_is6i, F_is6r, F_is6m, F_al2, F_il6, F_is7i, F_is7r, F_is7m, F_il7, X_iald, F_inc3i, F_inc3r, F_inc3m, F_inc7i, F_inc7r, F_inc7m, T_goto, F_inc4i, F_inc4r, F_inc4m, T_getR, J_cp, X_aald, T_dupI, T_dupR, T_putI, T_putZ, c11, c107, c108, ↓s11, kd_46, o1, ↓reduceIte, TK, lt_run hn, le43, Int.le_refl, Int.lt_irrefl, Option.some.injEq, exists_eq_left', true_and, and_true, if_true, if_false, decide_eq_false_iff_not, decide_eq_true_eq, Nat.reduceAdd, Nat.reduceLeDiff, Nat.reduceLT, Int.reduceAdd, Int.reduceSub, Int.reduceMul, Int.reduceNeg, not_true_eq_false, not_false_eq_true]
    refine w11 O C2 (by rw [la1]; omega) (fun h3 C3 e3 => ?_)
    simp +decide (maxSteps := 4000000) (disch := omega) only [k106_0, k106_1, k106_4, k106_5, k106_r, k106_s, F_al0, T_getI, T_I, T_iclt, T_ret, F_is3i, F_is3r, F_is3m, F_is4i, F_is4r, F_is4m, T_ft, F_il4, T_icge, F_il3, F_al1, F_is5i, F_is5r, F_is5m, F_il5, T_add, F_is6i, F_is6r, F_is6m, F_al2, F_il6, F_is7i, F_is7r, F_is7m, F_il7, X_iald, F_inc3i, F_inc3r, F_inc3m, F_inc7i, F_inc7r, F_inc7m, T_goto, F_inc4i, F_inc4r, F_inc4m, T_getR, J_cp, X_aald, T_dupI, T_dupR, T_putI, T_putZ, c11, c107, c108, ↓s11, ↓reduceIte, TK, lt_run hn, le43, Int.le_refl, Int.lt_irrefl, Option.some.injEq, exists_eq_left', true_and, and_true, if_true, if_false, decide_eq_false_iff_not, decide_eq_true_eq, Nat.reduceAdd, Nat.reduceLeDiff, Nat.reduceLT, Int.reduceAdd, Int.reduceSub, Int.reduceMul, Int.reduceNeg, not_true_eq_false, not_false_eq_true]
    have e3' : Ef (Sw 775) h h3 := (e1.trans e2).trans e3
    rw [List.append_assoc] at C3
    have pm : ∀ j : Int, 0 ≤ j → j ≤ o → (pxl A (p + s) j.toNat).length ≤ (pxl A (p + s) o.toNat).length := by
      have key : ∀ d j : Nat, (pxl A (p + s) j).length ≤ (pxl A (p + s) (j + d)).length := by
        intro d j
        induction d with
        | zero => exact Nat.le_refl _
        | succ d ih =>
          have : (pxl A (p + s) (j + (d + 1))).length = (pxl A (p + s) (j + d)).length + (pxB (A (p + s + ((j + d : Nat) : Int)))).length := List.length_append
          omega
      intro j j0 j1
      have := key (o.toNat - j.toNat) j.toNat
      rw [show j.toNat + (o.toNat - j.toNat) = o.toNat by omega] at this
      exact this
    have lq := T_for (E := E) (m := 106) (L := 3) (hr := hr) (n := n) (Q := Q) (σ := Unit) (fun j _ => [.ref 113, .ref g, .ref 46, .int (J (p + s + j)), .int (J i), .int (J s), .int (J o), .int (J j)]) (fun j _ h' => Ef (Sw 775) h h' ∧ OC h' 775 (m ++ [s, o] ++ pxl A (p + s) j.toNat)) 0 o ?_ ?_ 0 () h3 (by omega) (by omega) ⟨e3', by rw [show pxl A (p + s) (0 : Int).toNat = [] from rfl, List.append_nil]; exact C3⟩
    · rw [Int.add_zero] at lq
      exact lq
    · rintro j _ h4 j0 j1 ⟨e4, C4⟩ ihj
      obtain ⟨q1, q2, q3⟩ := fr e4
      have d1 := q1 (p + s + j) (by omega) (by omega)
      have r1 := R1 (p + s + j) (by omega) (by omega)
      have pj := pm (j + 1) (by omega) (by omega)
      rw [pxl_s j0] at pj
      have pb := pxB_l (A (p + s + j))
      have pj0 := pm j j0 (by omega)
      rw [k106_3]
      simp +decide (maxSteps := 4000000) (disch := omega) only [k106_0, k106_1, k106_4, k106_5, k106_r, k106_s, F_al0, T_getI, T_I, T_iclt, T_ret, F_is3i, F_is3r, F_is3m, F_is4i, F_is4r, F_is4m, T_ft, F_il4, T_icge, F_il3, F_al1, F_is5i, F_is5r, F_is5m, F_il5, T_add, F_is6i, F_is6r, F_is6m, F_al2, F_il6, F_is7i, F_is7r, F_is7m, F_il7, X_iald, F_inc3i, F_inc3r, F_inc3m, F_inc7i, F_inc7r, F_inc7m, T_goto, F_inc4i, F_inc4r, F_inc4m, T_getR, J_cp, X_aald, T_dupI, T_dupR, T_putI, T_putZ, c11, c107, c108, ↓s11, g1, g2, d1, kd_46, o1, show ¬ o ≤ j by omega, ↓reduceIte, TK, lt_run hn, le43, Int.le_refl, Int.lt_irrefl, Option.some.injEq, exists_eq_left', true_and, and_true, if_true, if_false, decide_eq_false_iff_not, decide_eq_true_eq, Nat.reduceAdd, Nat.reduceLeDiff, Nat.reduceLT, Int.reduceAdd, Int.reduceSub, Int.reduceMul, Int.reduceNeg, not_true_eq_false, not_false_eq_true]
      have l4 : ((m ++ [s, o] ++ pxl A (p + s) j.toNat).length : Int) = m.length + 2 + (pxl A (p + s) j.toNat).length := by
        rw [la2, la2]
        rfl
      by_cases w : A (p + s + j) = -1
      · rw [w]
        have pe : pxB (-1) = [0] := rfl
        rw [w, pe, List.length_append] at pj
        have e1l : ([0] : List Int).length = 1 := rfl
        rw [e1l] at pj
        simp +decide (maxSteps := 4000000) (disch := omega) only [k108_0, k108_1, k108_2, k108_r, k108_s, F_il1, T_I, J_icne, F_al0, T_goto, T_shr, T_ft, T_ret, c11, ↓s11, kd_46, o1, ↓reduceIte, TK, lt_run hn, le43, Int.le_refl, Int.lt_irrefl, Option.some.injEq, exists_eq_left', true_and, and_true, if_true, if_false, decide_eq_false_iff_not, decide_eq_true_eq, Nat.reduceAdd, Nat.reduceLeDiff, Nat.reduceLT, Int.reduceAdd, Int.reduceSub, Int.reduceMul, Int.reduceNeg, not_true_eq_false, not_false_eq_true]
        refine w11 O C4 (by rw [l4]; omega) (fun h5 C5 e5 => ?_)
        try simp +decide (maxSteps := 4000000) (disch := omega) only [k108_0, k108_1, k108_2, k108_r, k108_s, F_il1, T_I, J_icne, F_al0, T_goto, T_shr, T_ft, T_ret, c11, ↓s11, ↓reduceIte, TK, lt_run hn, le43, Int.le_refl, Int.lt_irrefl, Option.some.injEq, exists_eq_left', true_and, and_true, if_true, if_false, decide_eq_false_iff_not, decide_eq_true_eq, Nat.reduceAdd, Nat.reduceLeDiff, Nat.reduceLT, Int.reduceAdd, Int.reduceSub, Int.reduceMul, Int.reduceNeg, not_true_eq_false, not_false_eq_true]
        try simp +decide (maxSteps := 4000000) (disch := omega) only [k106_0, k106_1, k106_4, k106_5, k106_r, k106_s, F_al0, T_getI, T_I, T_iclt, T_ret, F_is3i, F_is3r, F_is3m, F_is4i, F_is4r, F_is4m, T_ft, F_il4, T_icge, F_il3, F_al1, F_is5i, F_is5r, F_is5m, F_il5, T_add, F_is6i, F_is6r, F_is6m, F_al2, F_il6, F_is7i, F_is7r, F_is7m, F_il7, X_iald, F_inc3i, F_inc3r, F_inc3m, F_inc7i, F_inc7r, F_inc7m, T_goto, F_inc4i, F_inc4r, F_inc4m, T_getR, J_cp, X_aald, T_dupI, T_dupR, T_putI, T_putZ, c11, c107, c108, ↓s11, ↓reduceIte, TK, lt_run hn, le43, Int.le_refl, Int.lt_irrefl, Option.some.injEq, exists_eq_left', true_and, and_true, if_true, if_false, decide_eq_false_iff_not, decide_eq_true_eq, Nat.reduceAdd, Nat.reduceLeDiff, Nat.reduceLT, Int.reduceAdd, Int.reduceSub, Int.reduceMul, Int.reduceNeg, not_true_eq_false, not_false_eq_true]
        rw [show p + s + j + 1 = p + s + (j + 1) by omega]
        refine ihj () _ ⟨e4.trans e5, ?_⟩
        rw [pxl_s j0, w, pe, ← List.append_assoc]
        exact C5
      · have pe : (pxB (A (p + s + j))).length = 4 := by
          unfold pxB
          rw [if_neg w]
          rfl
        rw [List.length_append, pe] at pj
        refine w108 O hn C4 (by rw [l4]; omega) r1 (fun h5 C5 e5 => ?_)
        simp +decide (maxSteps := 4000000) (disch := omega) only [k106_0, k106_1, k106_4, k106_5, k106_r, k106_s, F_al0, T_getI, T_I, T_iclt, T_ret, F_is3i, F_is3r, F_is3m, F_is4i, F_is4r, F_is4m, T_ft, F_il4, T_icge, F_il3, F_al1, F_is5i, F_is5r, F_is5m, F_il5, T_add, F_is6i, F_is6r, F_is6m, F_al2, F_il6, F_is7i, F_is7r, F_is7m, F_il7, X_iald, F_inc3i, F_inc3r, F_inc3m, F_inc7i, F_inc7r, F_inc7m, T_goto, F_inc4i, F_inc4r, F_inc4m, T_getR, J_cp, X_aald, T_dupI, T_dupR, T_putI, T_putZ, c11, c107, c108, ↓s11, ↓reduceIte, TK, lt_run hn, le43, Int.le_refl, Int.lt_irrefl, Option.some.injEq, exists_eq_left', true_and, and_true, if_true, if_false, decide_eq_false_iff_not, decide_eq_true_eq, Nat.reduceAdd, Nat.reduceLeDiff, Nat.reduceLT, Int.reduceAdd, Int.reduceSub, Int.reduceMul, Int.reduceNeg, not_true_eq_false, not_false_eq_true]
        rw [show p + s + j + 1 = p + s + (j + 1) by omega]
        refine ihj () _ ⟨e4.trans e5, ?_⟩
        rw [pxl_s j0, ← List.append_assoc]
        exact C5
    · rintro _ h4 ⟨e4, C4⟩
      rw [k106_3]
      simp +decide (maxSteps := 4000000) (disch := omega) only [k106_0, k106_1, k106_4, k106_5, k106_r, k106_s, F_al0, T_getI, T_I, T_iclt, T_ret, F_is3i, F_is3r, F_is3m, F_is4i, F_is4r, F_is4m, T_ft, F_il4, T_icge, F_il3, F_al1, F_is5i, F_is5r, F_is5m, F_il5, T_add, F_is6i, F_is6r, F_is6m, F_al2, F_il6, F_is7i, F_is7r, F_is7m, F_il7, X_iald, F_inc3i, F_inc3r, F_inc3m, F_inc7i, F_inc7r, F_inc7m, T_goto, F_inc4i, F_inc4r, F_inc4m, T_getR, J_cp, X_aald, T_dupI, T_dupR, T_putI, T_putZ, c11, c107, c108, ↓s11, ↓reduceIte, TK, lt_run hn, le43, Int.le_refl, Int.lt_irrefl, Option.some.injEq, exists_eq_left', true_and, and_true, if_true, if_false, decide_eq_false_iff_not, decide_eq_true_eq, Nat.reduceAdd, Nat.reduceLeDiff, Nat.reduceLT, Int.reduceAdd, Int.reduceSub, Int.reduceMul, Int.reduceNeg, not_true_eq_false, not_false_eq_true]
      refine ih (p + s + o, m ++ [s, o] ++ pxl A (p + s) o.toNat, _, _, _) _ ⟨e4, C4, ?_, by dsimp only; omega, by dsimp only; omega⟩
      dsimp only
      rw [← c1, List.append_assoc, List.append_assoc, List.append_assoc]
  · rintro ⟨p, m, v5, v6, v7⟩ h1 ⟨e1, C1, c1, c2, c3⟩
    dsimp only at C1 c1 c2 c3 ⊢
    rw [show p = 1536 by omega, enc_z, List.append_nil] at c1
    rw [c1] at C1
    rw [k106_2]
    simp +decide (maxSteps := 4000000) (disch := omega) only [k106_0, k106_1, k106_4, k106_r, k106_s, F_al0, T_getI, T_I, T_iclt, T_ret, F_is3i, F_is3r, F_is3m, F_is4i, F_is4r, F_is4m, T_ft, F_il4, T_icge, F_il3, F_al1, F_is5i, F_is5r, F_is5m, F_il5, T_add, F_is6i, F_is6r, F_is6m, F_al2, F_il6, F_is7i, F_is7r, F_is7m, F_il7, X_iald, F_inc3i, F_inc3r, F_inc3m, F_inc7i, F_inc7r, F_inc7m, T_goto, F_inc4i, F_inc4r, F_inc4m, T_getR, J_cp, X_aald, T_dupI, T_dupR, T_putI, T_putZ, c11, c107, c108, ↓s11, ↓reduceIte, TK, lt_run hn, le43, Int.le_refl, Int.lt_irrefl, Option.some.injEq, exists_eq_left', true_and, and_true, if_true, if_false, decide_eq_false_iff_not, decide_eq_true_eq, Nat.reduceAdd, Nat.reduceLeDiff, Nat.reduceLT, Int.reduceAdd, Int.reduceSub, Int.reduceMul, Int.reduceNeg, not_true_eq_false, not_false_eq_true]
    exact fin h1 _ _ _ _ _ e1 C1
end FJ
