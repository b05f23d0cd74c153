/-! node: what is told, the class -/
def ars (b : Int → Int) (t m : Int) : List Int → Int → Int → Int → (Int → Int) → Int × Int × (Int → Int)
  | [], _, _, p, T => (-1, p, T)
  | c :: cs, i, v, p, T => if bt b t p = 32 then (if (thC b t c m v (p + 1) (-1)).2.2 = -1 then ars b t m cs (i + 1) (thC b t c m v (p + 1) (-1)).1 (thC b t c m v (p + 1) (-1)).2.1 (upd1 T i (thC b t c m v (p + 1) (-1)).1) else ((thC b t c m v (p + 1) (-1)).2.2, 0, T)) else (p, 0, T)
/-- how far the telling is: no fault yet, or the fault that stays -/
def Ag (b : Int → Int) (t m : Int) (R : Int × Int × (Int → Int)) (row : Nat) (cs : List Int) (i p f : Int) (h : AHi) : Prop := (f = -1 ∧ ∃ v T, ars b t m cs i v p T = R ∧ (∀ j, 0 ≤ j → j < i → gA h row j = J (T j)) ∧ (i = 0 → v = 0) ∧ (0 < i → gA h row (i - 1) = J v ∧ -1000000000 < v ∧ v < 1000000000)) ∨ ((0 ≤ f ∧ f ≤ 1700) ∧ R.1 = f)
theorem sg_l : ∀ k : Nat, k < 8 → ∀ q : Nat, q < (sgK k).length → (sgK k).getD q 0 = 99 ∨ (sgK k).getD q 0 = 102 ∨ (sgK k).getD q 0 = 103 ∨ (sgK k).getD q 0 = 104 ∨ (sgK k).getD q 0 = 107 ∨ (sgK k).getD q 0 = 108 ∨ (sgK k).getD q 0 = 110 ∨ (sgK k).getD q 0 = 115 ∨ (sgK k).getD q 0 = 120 ∨ (sgK k).getD q 0 = 121 := by decide +kernel
theorem sg_5 : ∀ k : Nat, k < 8 → (sgK k).length ≤ 5 := by decide +kernel
theorem dropc {L cs : List Int} {i : Nat} {c : Int} (h : L.drop i = c :: cs) : L.getD i 0 = c ∧ L.drop (i + 1) = cs := by
  have hl : i < L.length := by
    by_cases z : i < L.length
    · exact z
    · rw [List.drop_eq_nil_of_le (by omega)] at h
      exact absurd h (by simp only [reduceCtorEq, not_false_eq_true])
  rw [List.drop_eq_getElem_cons hl] at h
  obtain ⟨h1, h2⟩ := List.cons.inj h
  refine ⟨?_, h2⟩
  rw [List.getD_eq_getElem?_getD, List.getElem?_eq_getElem hl]
  exact h1
section AR
variable {E : AEn} {h h' : AHi} {hr : AHr} {n : Nat} {Q : ARs → Prop} {t p f m w e v c : Int} {b V : Int → Int} {k : Nat}
theorem thC_b (hb : ∀ i, 0 ≤ b i ∧ b i ≤ 255) (ht : 0 ≤ t ∧ t ≤ 1600) (hp : 0 ≤ p ∧ p ≤ 1690) (hf : f = -1 ∨ 0 ≤ f ∧ f ≤ 1700) : (p ≤ (thC b t c m v p f).2.1 ∧ ((thC b t c m v p f).2.1 ≤ t ∨ (thC b t c m v p f).2.1 = p)) ∧ ((thC b t c m v p f).2.2 = -1 ∨ 0 ≤ (thC b t c m v p f).2.2 ∧ (thC b t c m v p f).2.2 ≤ 1700) ∧ -1000000000 < (thC b t c m v p f).1 ∧ (thC b t c m v p f).1 < 1000000000 := by
  unfold thC
  split
  · exact int_b hb ht _ _ hp hf
  · have := num_b (t := t) (f := f) hb ht (thL c v) (thH c m) (p := p) (by omega) hf
    omega
theorem thC_f (hf : f ≠ -1) : (thC b t c m v p f).2.2 = f := by
  unfold thC
  split
  · exact int_f hf
  · exact num_f hf
theorem z90 (F : FH hr) (hn : 775 ≤ n) (hk : k < 8) (hm : 0 ≤ m ∧ m ≤ 10) {R : Int × Int × (Int → Int)} : ∀ (cs : List Int) (i p f : Int) (h : AHi), (sgK k).drop i.toNat = cs → 0 ≤ i → i + cs.length = (sgK k).length → 0 ≤ p → p ≤ t → (f = -1 ∨ 0 ≤ f ∧ f ≤ 1700) → TpC h t b → h 113 2 = J m → (0 < i → ∃ v, (-1000000000 < v ∧ v < 1000000000) ∧ gA h (116 + m.toNat) (i - 1) = J v) → Ag b t m R (116 + m.toNat) cs i p f h →
    (∀ h' p' f', 0 ≤ p' → p' ≤ t → (f' = -1 ∨ 0 ≤ f' ∧ f' ≤ 1700) → Ef (fun a _ => a = 116 + m.toNat) h h' → Ag b t m R (116 + m.toNat) [] (sgK k).length p' f' h' → Tm E 90 (a_bl 90 4) [.ref 113, .ref 44, .ref (4 + k), .ref (116 + m.toNat), .int (J (sgK k).length)] [] (RS h' p' f') hr n Q) →
    Tm E 90 (a_bl 90 1) [.ref 113, .ref 44, .ref (4 + k), .ref (116 + m.toNat), .int (J i)] [] (RS h p f) hr n Q := by
  intro cs
  obtain ⟨⟨u1, _, u2, _⟩, _, u5, u4, _⟩ := nm_t k hk
  have S := St_s (E := E) hk
  have l5 := sg_5 k hk
  have u3 : rR hr (4 + k) 1 = some (sgI k) := (rR_c (by omega)).trans u2
  have y1 : 4 + k < n := by omega
  have ln : ∀ {h : AHi} {Q : ARs → Prop}, Sp E 339 [.ref (sgI k)] h hr n Q ↔ Q (some (.int (J (sgK k).length)), h, hr, n) := fun {h Q} => w339 hn S
  have x1 := X115 E F hm.1 (show m < 11 by omega)
  induction cs with
  | nil =>
    intro i p f h hd i0 il p0 p1 hf T h2 pv A kk
    have ei : i = (sgK k).length := by
      have : (([] : List Int).length : Int) = 0 := rfl
      omega
    subst ei
    have fin := kk h p f p0 p1 hf Ef.refl A
    rw [k90_1]
    simp +decide (maxSteps := 4000000) (disch := omega) only [k90_0, k90_2, k90_3, k90_5, k90_6, k90_7, k90_r, k90_s, F_al1, F_as2i, F_as2r, F_as2m, F_al0, T_getR, T_getI, X_aald, F_as3i, F_as3r, F_as3m, T_I, F_is4i, F_is4r, F_is4m, T_ft, F_il4, F_al2, T_icge, F_al3, J_ifle, T_sub, X_iald, T_goto, T_iast, F_inc4i, F_inc4r, F_inc4m, J_ifeq, J_ifne, T_ret, T_iclt, T_aast, T_dupI, T_dupR, T_add, T_putI, T_putZ, c13, c16, c18, c21, c22, c24, c91, c92, c339, c341, ↓s13, ↓s16, ↓s18, ↓s21, ↓s22, ↓s24, u1, u3, u4, y1, ln, ↓reduceIte, TK, lt_run hn, le43, Int.le_refl, Int.lt_irrefl, Option.some.injEq, exists_eq_left', true_and, and_true, if_true, if_false, decide_eq_false_iff_not, decide_eq_true_eq, Nat.reduceAdd, Nat.reduceLeDiff, Nat.reduceLT, Int.reduceAdd, Int.reduceSub, Int.reduceMul, Int.reduceNeg, not_true_eq_false, not_false_eq_true]
    exact fin
  | cons c cs ih =>
    intro i p f h hd i0 il p0 p1 hf T h2 pv A kk
    have t1 := T.1
    obtain ⟨gc, hd2⟩ := dropc hd
    have il' : i + (cs.length : Int) + 1 = (sgK k).length := by
      have : ((c :: cs).length : Int) = cs.length + 1 := rfl
      omega
    have lc := sg_l k hk i.toNat (by omega)
    rw [gc] at lc
    have bp := bt_r (t := t) T.2.1 p
    have xb := x_b (b := b) (t := t) (f := f) (p := p) (c := 32) (by decide) p0
    have xf1 : xf b t 32 p f = -1 ∨ 0 ≤ xf b t 32 p f ∧ xf b t 32 p f ≤ 1700 := by
      by_cases q : f = -1
      · have := xb.2.2.2.2 q
        omega
      · rw [xb.2.2.2.1 q]
        exact hf
    have xp1 : 0 ≤ xp b t 32 p f ∧ xp b t 32 p f ≤ t := by
      rcases (show xp b t 32 p f = p ∨ xp b t 32 p f = p + 1 by omega) with q | q
      · omega
      · have := xb.2.1 q
        omega
    have ch : ∀ {h : AHi} {Q : ARs → Prop}, Sp E 341 [.ref (sgI k), .int (J i)] h hr n Q ↔ Q (some (.int (J c)), h, hr, n) := fun {h Q} => by rw [w341 hn S i0 (by omega), gc]
    have three : ∀ v, (-1000000000 < v ∧ v < 1000000000) → (f = -1 → ∃ T0, ars b t m (c :: cs) i v p T0 = R ∧ ∀ j, 0 ≤ j → j < i → gA h (116 + m.toNat) j = J (T0 j)) → Tm E 90 (a_bl 90 3) [.ref 113, .ref 44, .ref (4 + k), .ref (116 + m.toNat), .int (J i)] [.int (J v), .int (J c), .ref 44, .ref 113, .int (J i), .ref (116 + m.toNat)] (RS h (xp b t 32 p f) (xf b t 32 p f)) hr n Q := fun v hv hA => by
      have tb := thC_b (c := c) (m := m) (v := v) (p := xp b t 32 p f) (f := xf b t 32 p f) T.2.1 T.1 (by omega) xf1
      rw [k90_3]
      simp +decide (maxSteps := 4000000) (disch := omega) only [k90_0, k90_2, k90_3, k90_4, k90_5, k90_6, k90_7, k90_r, k90_s, F_al1, F_as2i, F_as2r, F_as2m, F_al0, T_getR, T_getI, X_aald, F_as3i, F_as3r, F_as3m, T_I, F_is4i, F_is4r, F_is4m, T_ft, F_il4, F_al2, T_icge, F_al3, J_ifle, T_sub, X_iald, T_goto, T_iast, F_inc4i, F_inc4r, F_inc4m, J_ifeq, J_ifne, T_ret, T_iclt, T_aast, T_dupI, T_dupR, T_add, T_putI, T_putZ, c13, c16, c18, c21, c22, c24, c91, c92, c339, c341, ↓s13, ↓s16, ↓s18, ↓s21, ↓s22, ↓s24, ↓reduceIte, TK, lt_run hn, le43, Int.le_refl, Int.lt_irrefl, Option.some.injEq, exists_eq_left', true_and, and_true, if_true, if_false, decide_eq_false_iff_not, decide_eq_true_eq, Nat.reduceAdd, Nat.reduceLeDiff, Nat.reduceLT, Int.reduceAdd, Int.reduceSub, Int.reduceMul, Int.reduceNeg, not_true_eq_false, not_false_eq_true]
      rw [w92 F hn T lc h2 hm hv (by omega) xf1]
      simp +decide (maxSteps := 4000000) (disch := omega) only [k90_0, k90_2, k90_3, k90_4, k90_5, k90_6, k90_7, k90_r, k90_s, F_al1, F_as2i, F_as2r, F_as2m, F_al0, T_getR, T_getI, X_aald, F_as3i, F_as3r, F_as3m, T_I, F_is4i, F_is4r, F_is4m, T_ft, F_il4, F_al2, T_icge, F_al3, J_ifle, T_sub, X_iald, T_goto, T_iast, F_inc4i, F_inc4r, F_inc4m, J_ifeq, J_ifne, T_ret, T_iclt, T_aast, T_dupI, T_dupR, T_add, T_putI, T_putZ, c13, c16, c18, c21, c22, c24, c91, c92, c339, c341, ↓s13, ↓s16, ↓s18, ↓s21, ↓s22, ↓s24, x1, ↓reduceIte, TK, lt_run hn, le43, Int.le_refl, Int.lt_irrefl, Option.some.injEq, exists_eq_left', true_and, and_true, if_true, if_false, decide_eq_false_iff_not, decide_eq_true_eq, Nat.reduceAdd, Nat.reduceLeDiff, Nat.reduceLT, Int.reduceAdd, Int.reduceSub, Int.reduceMul, Int.reduceNeg, not_true_eq_false, not_false_eq_true]
      rw [RS_d (by omega)]
      have e1 : Ef (fun a _ => a = 116 + m.toNat) h (sA h (116 + m.toNat) i (J (thC b t c m v (xp b t 32 p f) (xf b t 32 p f)).1)) := Ef.refl.sA rfl
      refine ih (i + 1) _ _ _ (by rw [show (i + 1).toNat = i.toNat + 1 by omega]; exact hd2) (by omega) (by omega) (by omega) (by omega) tb.2.1 (T.ef e1 (by omega) (fun k => by omega)) (by rw [sA_o (by omega)]; exact h2) (fun _ => ⟨_, tb.2.2, by rw [show i + 1 - 1 = i by omega, gs_s]⟩) ?_ (fun h' p' f' a1 a2 a3 a4 => kk h' p' f' a1 a2 a3 (e1.trans a4))
      by_cases q : f = -1
      · obtain ⟨T0, r1, r2⟩ := hA q
        subst q
        unfold ars at r1
        by_cases g : bt b t p = 32
        · have ep : xp b t 32 p (-1) = p + 1 := if_pos ⟨rfl, g⟩
          have ef : xf b t 32 p (-1) = -1 := if_pos ⟨rfl, g⟩
          rw [if_pos g] at r1
          rw [ep, ef] at tb ⊢
          by_cases g2 : (thC b t c m v (p + 1) (-1)).2.2 = -1
          · rw [if_pos g2] at r1
            refine Or.inl ⟨g2, _, _, r1, fun j j0 j1 => ?_, fun z => by omega, fun _ => ⟨by rw [show i + 1 - 1 = i by omega, gs_s], tb.2.2⟩⟩
            unfold upd1
            by_cases z : j = i
            · rw [z, gs_s, if_pos rfl]
            · rw [gs_k i0 j0 z, if_neg z]
              exact r2 j j0 (by omega)
          · rw [if_neg g2] at r1
            exact Or.inr ⟨tb.2.1.resolve_left g2, by rw [← r1]⟩
        · have ef : xf b t 32 p (-1) = p := by
            unfold xf
            rw [if_neg (fun z => g z.2)]
            rfl
          rw [if_neg g] at r1
          rw [ef]
          have f1 : p ≠ -1 := by omega
          rw [thC_f f1]
          exact Or.inr ⟨by omega, by rw [← r1]⟩
      · rw [xf_f q, thC_f q]
        rcases A with A | A
        · exact absurd A.1 q
        · exact Or.inr A
    by_cases g0 : i = 0
    · have fin := three 0 (by decide) (fun q => by
        rcases A with ⟨_, v, T0, r1, r2, r3, _⟩ | A
        · rw [r3 g0] at r1
          exact ⟨T0, r1, r2⟩
        · omega)
      rw [k90_1]
      simp +decide (maxSteps := 4000000) (disch := omega) only [k90_0, k90_2, k90_5, k90_6, k90_7, k90_r, k90_s, F_al1, F_as2i, F_as2r, F_as2m, F_al0, T_getR, T_getI, X_aald, F_as3i, F_as3r, F_as3m, T_I, F_is4i, F_is4r, F_is4m, T_ft, F_il4, F_al2, T_icge, F_al3, J_ifle, T_sub, X_iald, T_goto, T_iast, F_inc4i, F_inc4r, F_inc4m, J_ifeq, J_ifne, T_ret, T_iclt, T_aast, T_dupI, T_dupR, T_add, T_putI, T_putZ, c13, c16, c18, c21, c22, c24, c91, c92, c339, c341, ↓s13, ↓s16, ↓s18, ↓s21, ↓s24, u1, u3, u4, y1, ln, kd_44, show ¬ ((sgK k).length : Int) ≤ i by omega, ↓reduceIte, TK, lt_run hn, le43, Int.le_refl, Int.lt_irrefl, Option.some.injEq, exists_eq_left', true_and, and_true, if_true, if_false, decide_eq_false_iff_not, decide_eq_true_eq, Nat.reduceAdd, Nat.reduceLeDiff, Nat.reduceLT, Int.reduceAdd, Int.reduceSub, Int.reduceMul, Int.reduceNeg, not_true_eq_false, not_false_eq_true]
      rw [x22 F hn T (by omega) (by omega) (by decide)]
      simp +decide (maxSteps := 4000000) (disch := omega) only [k90_0, k90_2, k90_4, k90_5, k90_6, k90_7, k90_r, k90_s, F_al1, F_as2i, F_as2r, F_as2m, F_al0, T_getR, T_getI, X_aald, F_as3i, F_as3r, F_as3m, T_I, F_is4i, F_is4r, F_is4m, T_ft, F_il4, F_al2, T_icge, F_al3, J_ifle, T_sub, X_iald, T_goto, T_iast, F_inc4i, F_inc4r, F_inc4m, J_ifeq, J_ifne, T_ret, T_iclt, T_aast, T_dupI, T_dupR, T_add, T_putI, T_putZ, c13, c16, c18, c21, c22, c24, c91, c92, c339, c341, ↓s13, ↓s16, ↓s18, ↓s21, ↓s22, ↓s24, FX F, u1, u3, u4, y1, ch, show i ≤ 0 by omega, ↓reduceIte, TK, lt_run hn, le43, Int.le_refl, Int.lt_irrefl, Option.some.injEq, exists_eq_left', true_and, and_true, if_true, if_false, decide_eq_false_iff_not, decide_eq_true_eq, Nat.reduceAdd, Nat.reduceLeDiff, Nat.reduceLT, Int.reduceAdd, Int.reduceSub, Int.reduceMul, Int.reduceNeg, not_true_eq_false, not_false_eq_true]
      exact fin
    · obtain ⟨v, hv, pv1⟩ := pv (by omega)
      have z1 : gA (RS h (xp b t 32 p f) (xf b t 32 p f)) (116 + m.toNat) (i - 1) = J v := by rw [RS_g (by omega)]; exact pv1
      have fin := three v hv (fun q => by
        rcases A with ⟨_, v', T0, r1, r2, _, r4⟩ | A
        · have e : J v = J v' := pv1.symm.trans (r4 (by omega)).1
          have hv' := (r4 (by omega)).2
          rw [J_eq (by omega) (by omega) (by omega) (by omega)] at e
          subst e
          exact ⟨T0, r1, r2⟩
        · omega)
      rw [k90_1]
      simp +decide (maxSteps := 4000000) (disch := omega) only [k90_0, k90_2, k90_5, k90_6, k90_7, k90_r, k90_s, F_al1, F_as2i, F_as2r, F_as2m, F_al0, T_getR, T_getI, X_aald, F_as3i, F_as3r, F_as3m, T_I, F_is4i, F_is4r, F_is4m, T_ft, F_il4, F_al2, T_icge, F_al3, J_ifle, T_sub, X_iald, T_goto, T_iast, F_inc4i, F_inc4r, F_inc4m, J_ifeq, J_ifne, T_ret, T_iclt, T_aast, T_dupI, T_dupR, T_add, T_putI, T_putZ, c13, c16, c18, c21, c22, c24, c91, c92, c339, c341, ↓s13, ↓s16, ↓s18, ↓s21, ↓s24, u1, u3, u4, y1, ln, kd_44, show ¬ ((sgK k).length : Int) ≤ i by omega, ↓reduceIte, TK, lt_run hn, le43, Int.le_refl, Int.lt_irrefl, Option.some.injEq, exists_eq_left', true_and, and_true, if_true, if_false, decide_eq_false_iff_not, decide_eq_true_eq, Nat.reduceAdd, Nat.reduceLeDiff, Nat.reduceLT, Int.reduceAdd, Int.reduceSub, Int.reduceMul, Int.reduceNeg, not_true_eq_false, not_false_eq_true]
      rw [x22 F hn T (by omega) (by omega) (by decide)]
      simp +decide (maxSteps := 4000000) (disch := omega) only [k90_0, k90_2, k90_4, k90_5, k90_6, k90_7, k90_r, k90_s, F_al1, F_as2i, F_as2r, F_as2m, F_al0, T_getR, T_getI, X_aald, F_as3i, F_as3r, F_as3m, T_I, F_is4i, F_is4r, F_is4m, T_ft, F_il4, F_al2, T_icge, F_al3, J_ifle, T_sub, X_iald, T_goto, T_iast, F_inc4i, F_inc4r, F_inc4m, J_ifeq, J_ifne, T_ret, T_iclt, T_aast, T_dupI, T_dupR, T_add, T_putI, T_putZ, c13, c16, c18, c21, c22, c24, c91, c92, c339, c341, ↓s13, ↓s16, ↓s18, ↓s21, ↓s22, ↓s24, FX F, u1, u3, u4, y1, ch, x1, z1, show ¬ i ≤ 0 by omega, ↓reduceIte, TK, lt_run hn, le43, Int.le_refl, Int.lt_irrefl, Option.some.injEq, exists_eq_left', true_and, and_true, if_true, if_false, decide_eq_false_iff_not, decide_eq_true_eq, Nat.reduceAdd, Nat.reduceLeDiff, Nat.reduceLT, Int.reduceAdd, Int.reduceSub, Int.reduceMul, Int.reduceNeg, not_true_eq_false, not_false_eq_true]
      exact fin
end AR
