/-! tween: fills; the reference's drawing between two -/
section TD
variable {E : AEn} {h h' : AHi} {hr : AHr} {n : Nat} {Q : ARs → Prop} {a b : Int} {D D' : Drw} {Z : Int → Int} {T : Nat → Int} {l : List Stk}
theorem w48 (F : FH hr) (hn : 775 ≤ n) {t p : Nat} (B : DB t) (Bp : DB p) (ap : t + 29 ≤ p ∨ p + 29 ≤ t) {G : Fils} (R : FRr G) (C : FC h p G)
    (k : ∀ h', FC h' t G → Ef (fun a k => (a = t ∧ k = 5) ∨ (t + 2 ≤ a ∧ a ≤ t + 4)) h h' → Q (none, h', hr, n)) : Sp E 48 [.ref t, .ref p] h hr n Q := by
  have x1 := B.x E F
  have x2 := B.r
  have y1 := Bp.x E F
  have y2 := Bp.r
  have r1 := R.1
  simp +decide (maxSteps := 4000000) (disch := omega) only [k48_0, k48_2, k48_r, k48_s, F_al0, T_I, T_putI, T_putZ, F_is2i, F_is2r, F_is2m, T_ft, F_il2, F_al1, T_getI, T_icge, T_getR, X_iald, F_inc2i, F_inc2r, F_inc2m, T_goto, T_ret, c44, x1, ↓reduceIte, TK, lt_run hn, le43, Int.le_refl, Int.lt_irrefl, Option.some.injEq, exists_eq_left', true_and, and_true, if_true, if_false, decide_eq_false_iff_not, decide_eq_true_eq, Nat.reduceAdd, Nat.reduceLeDiff, Nat.reduceLT, Int.reduceAdd, Int.reduceSub, Int.reduceMul, Int.reduceNeg, not_true_eq_false, not_false_eq_true]
  refine T_for (σ := Unit) (fun i _ => [.ref t, .ref p, .int (J i)]) (fun i _ h' => Ef (fun a k => (a = t ∧ k = 5) ∨ (t + 2 ≤ a ∧ a ≤ t + 4)) h h' ∧ FC h' t (i, G.2)) 0 G.1 ?_ ?_ 0 () _ (by omega) (by omega) ⟨Ef.hI Ef.refl (Or.inl ⟨rfl, rfl⟩), hI_s, fun i i0 i1 => by have : i < 0 := i1; omega⟩
  · rintro i _ h1 i0 i1 ⟨e1, c1⟩ ih
    have d := (C.ef e1 (fun x k q1 q2 q => by omega))
    have d1 := d.1
    obtain ⟨d2, d3, d4⟩ := d.2 i i0 i1
    rw [k48_1]
    simp +decide (maxSteps := 4000000) (disch := omega) only [k48_0, k48_2, k48_r, k48_s, F_al0, T_I, T_putI, T_putZ, F_is2i, F_is2r, F_is2m, T_ft, F_il2, F_al1, T_getI, T_icge, T_getR, X_iald, F_inc2i, F_inc2r, F_inc2m, T_goto, T_ret, c44, x1, y1, d1, d2, d3, d4, show ¬ G.1 ≤ i by omega, ↓reduceIte, TK, lt_run hn, le43, Int.le_refl, Int.lt_irrefl, Option.some.injEq, exists_eq_left', true_and, and_true, if_true, if_false, decide_eq_false_iff_not, decide_eq_true_eq, Nat.reduceAdd, Nat.reduceLeDiff, Nat.reduceLT, Int.reduceAdd, Int.reduceSub, Int.reduceMul, Int.reduceNeg, not_true_eq_false, not_false_eq_true]
    refine w44 F hn B (G := (i, G.2)) ⟨⟨i0, by show i ≤ 6; omega⟩, R.2⟩ (by show i < 6; omega) c1 (fun h2 c2 e2 => ?_)
    simp +decide (maxSteps := 4000000) (disch := omega) only [k48_0, k48_2, k48_r, k48_s, F_al0, T_I, T_putI, T_putZ, F_is2i, F_is2r, F_is2m, T_ft, F_il2, F_al1, T_getI, T_icge, T_getR, X_iald, F_inc2i, F_inc2r, F_inc2m, T_goto, T_ret, c44, ↓reduceIte, TK, lt_run hn, le43, Int.le_refl, Int.lt_irrefl, Option.some.injEq, exists_eq_left', true_and, and_true, if_true, if_false, decide_eq_false_iff_not, decide_eq_true_eq, Nat.reduceAdd, Nat.reduceLeDiff, Nat.reduceLT, Int.reduceAdd, Int.reduceSub, Int.reduceMul, Int.reduceNeg, not_true_eq_false, not_false_eq_true]
    refine ih () _ ⟨e1.trans e2, ?_⟩
    have e : addF (i, G.2) (G.2 i) = (i + 1, G.2) := by
      unfold addF
      refine congrArg (fun z => (i + 1, z)) (funext fun k => ?_)
      dsimp only
      split
      case isTrue w => rw [w]
      · rfl
    rw [← e]
    exact c2
  · rintro _ h1 ⟨e1, c1⟩
    have d1 := (C.ef e1 (fun x k q1 q2 q => by omega)).1
    rw [k48_1]
    simp +decide (maxSteps := 4000000) (disch := omega) only [k48_0, k48_2, k48_r, k48_s, F_al0, T_I, T_putI, T_putZ, F_is2i, F_is2r, F_is2m, T_ft, F_il2, F_al1, T_getI, T_icge, T_getR, X_iald, F_inc2i, F_inc2r, F_inc2m, T_goto, T_ret, c44, x1, y1, d1, ↓reduceIte, TK, lt_run hn, le43, Int.le_refl, Int.lt_irrefl, Option.some.injEq, exists_eq_left', true_and, and_true, if_true, if_false, decide_eq_false_iff_not, decide_eq_true_eq, Nat.reduceAdd, Nat.reduceLeDiff, Nat.reduceLT, Int.reduceAdd, Int.reduceSub, Int.reduceMul, Int.reduceNeg, not_true_eq_false, not_false_eq_true]
    exact k h1 c1 e1
/-- who is paired -/
def twQ (Z : Int → Int) (j : Int) : Nat → Bool
  | 0 => false
  | i + 1 => twQ Z j i || decide (Z i = j)
theorem twQ_e {d e : Int} (he : 0 ≤ e ∧ e ≤ 8) (H : twH d e Z T) {j : Int} (hj : 0 ≤ j ∧ j < 8) : ∀ i : Nat, (i : Int) ≤ d → maB (T i) j = twQ Z j i := by
  have w := maW_r he
  intro i
  induction i with
  | zero =>
    intro _
    rw [H.1]
    exact maB_0 j
  | succ i ih =>
    intro hi
    have t1 := H.2.2.1 i (by omega)
    rw [H.2.1 i (by omega)]
    show _ = (twQ Z j i || decide (Z i = j))
    rw [← ih (by omega)]
    rcases H.2.2.2 i (by omega) with q | q
    · rw [if_pos (by omega), maB_A (by omega) (by omega) hj]
      congr 1
      exact decide_eq_decide.mpr ⟨fun z => z.symm, fun z => z.symm⟩
    · rw [if_neg (by omega), decide_eq_false (by omega), Bool.or_false]
/-- the end of the reference's call -/
def Stt (t a k : Nat) : Prop := (a = 708 ∧ k = t) ∨ (a = 719 ∧ k = t) ∨ (720 ≤ a ∧ a ≤ 723 ∧ 6 * t ≤ k ∧ k < 6 * t + 6)
theorem z280t (F : FH hr) (hn : 775 ≤ n) {d e t fm N sm : Int} {ea : Bool} {v9 v10 : Int32} {v11 v12 v13 : Value} (hd : 0 ≤ d ∧ d < 16) (he : 0 ≤ e ∧ e < 16) (ht : 0 ≤ t ∧ t < 16) (hf : fm = if ea = true then d else e) (hne : fm ≠ t) (hs : 0 ≤ sm ∧ sm < 2000000000) {G : Fils} (R : FRr G) (C : FD h fm G)
    (k : ∀ h', Ef (Stt t.toNat) h h' → gA h' 708 t = J N → FD h' t G → Q (some (.int (J N)), h', hr, n)) : Tm E 280 (a_bl 280 30) [.ref 704, .int (J d), .int (J e), .int (J a), .int (J b), .int (J t), .int (Bz ea), .int (J N), .int (J sm), .int v9, .int v10, v11, v12, v13] [] h hr n Q := by
  have r1 := R.1
  have fb : 0 ≤ fm ∧ fm < 16 := by rw [hf]; split <;> omega
  have d1 : ∀ v, gA (sA h 708 t v) 719 fm = J G.1 := fun v => by rw [gs_o (by decide)]; exact C.1
  have lp : Tm E 280 (a_bl 280 33) [.ref 704, .int (J d), .int (J e), .int (J a), .int (J b), .int (J t), .int (Bz ea), .int (J N), .int (J sm), .int v9, .int v10, .int (J fm), .int (J 0), v13] [] (sA (sA h 708 t (J N)) 719 t (J G.1)) hr n Q := by
    refine T_for (σ := Unit) (fun i _ => [.ref 704, .int (J d), .int (J e), .int (J a), .int (J b), .int (J t), .int (Bz ea), .int (J N), .int (J sm), .int v9, .int v10, .int (J fm), .int (J i), v13]) (fun i _ h' => Ef (Stt t.toNat) h h' ∧ (gA h' 708 t = J N ∧ gA h' 719 t = J G.1) ∧ ∀ q, 0 ≤ q → q < i → FcM h' (6 * t + q) (G.2 q)) 0 G.1 ?_ ?_ 0 () _ (by omega) (by omega) ⟨Ef.sA (Ef.sA Ef.refl (Or.inl ⟨rfl, rfl⟩)) (Or.inr (Or.inl ⟨rfl, rfl⟩)), ⟨by rw [gs_o (by decide), gs_s], gs_s⟩, fun q _ _ => by omega⟩
    · rintro i _ h1 i0 i1 ⟨e1, e2, e3⟩ ih
      have q1 : gA h1 719 fm = J G.1 := (e1.g (by unfold Stt; omega)).trans C.1
      have q2 := (C.2 i i0 i1).ef e1 (fun x h1 h2 => by unfold Stt; omega)
      rw [k280_33]
      simp +decide (maxSteps := 4000000) (disch := omega) only [k280_0, k280_1, k280_2, k280_3, k280_4, k280_5, k280_6, k280_7, k280_8, k280_9, k280_11, k280_13, k280_14, k280_15, k280_16, k280_17, k280_18, k280_19, k280_20, k280_21, k280_24, k280_25, k280_26, k280_27, k280_28, k280_29, k280_30, k280_31, k280_32, k280_34, k280_35, k280_36, k280_r, k280_s, F_il1, J_ifeq, F_il2, F_il4, T_I, F_il3, F_il5, T_iceq, J_icne, T_ft, T_ret, T_mul, T_icge, T_goto, F_is6i, F_is6r, F_is6m, F_is7i, F_is7r, F_is7m, F_al0, F_is8i, F_is8r, F_is8m, F_is9i, F_is9r, F_is9m, J_ifne, F_is10i, F_is10r, F_is10m, F_is11i, F_is11r, F_is11m, F_il9, F_il11, T_getR, F_il10, X_iald, T_add, F_il7, F_inc7i, F_inc7r, F_inc7m, F_inc11i, F_inc11r, F_inc11m, F_is12i, F_is12r, F_is12m, F_il6, F_il12, F_is13i, F_is13r, F_is13m, F_il13, T_getI, F_inc13i, F_inc13r, F_inc13m, T_iast, F_inc12i, F_inc12r, F_inc12m, F_il8, J_ifge, c218, c219, c227, c230, c258, c274, c281, ↓s218, ↓s219, FM F, q1, ln_719, show ¬ G.1 ≤ i by omega, ↓reduceIte, TK, lt_run hn, le43, Int.le_refl, Int.lt_irrefl, Option.some.injEq, exists_eq_left', true_and, and_true, if_true, if_false, decide_eq_false_iff_not, decide_eq_true_eq, Nat.reduceAdd, Nat.reduceLeDiff, Nat.reduceLT, Int.reduceAdd, Int.reduceSub, Int.reduceMul, Int.reduceNeg, not_true_eq_false, not_false_eq_true]
      refine w258 F hn (by omega) (by omega) (by omega) (fun h2 e4 c4 => ?_)
      simp +decide (maxSteps := 4000000) (disch := omega) only [k280_0, k280_1, k280_2, k280_3, k280_4, k280_5, k280_6, k280_7, k280_8, k280_9, k280_11, k280_13, k280_14, k280_15, k280_16, k280_17, k280_18, k280_19, k280_20, k280_21, k280_24, k280_25, k280_26, k280_27, k280_28, k280_29, k280_30, k280_31, k280_32, k280_34, k280_35, k280_36, k280_r, k280_s, F_il1, J_ifeq, F_il2, F_il4, T_I, F_il3, F_il5, T_iceq, J_icne, T_ft, T_ret, T_mul, T_icge, T_goto, F_is6i, F_is6r, F_is6m, F_is7i, F_is7r, F_is7m, F_al0, F_is8i, F_is8r, F_is8m, F_is9i, F_is9r, F_is9m, J_ifne, F_is10i, F_is10r, F_is10m, F_is11i, F_is11r, F_is11m, F_il9, F_il11, T_getR, F_il10, X_iald, T_add, F_il7, F_inc7i, F_inc7r, F_inc7m, F_inc11i, F_inc11r, F_inc11m, F_is12i, F_is12r, F_is12m, F_il6, F_il12, F_is13i, F_is13r, F_is13m, F_il13, T_getI, F_inc13i, F_inc13r, F_inc13m, T_iast, F_inc12i, F_inc12r, F_inc12m, F_il8, J_ifge, c218, c219, c227, c230, c258, c274, c281, ↓s218, ↓s219, ↓reduceIte, TK, lt_run hn, le43, Int.le_refl, Int.lt_irrefl, Option.some.injEq, exists_eq_left', true_and, and_true, if_true, if_false, decide_eq_false_iff_not, decide_eq_true_eq, Nat.reduceAdd, Nat.reduceLeDiff, Nat.reduceLT, Int.reduceAdd, Int.reduceSub, Int.reduceMul, Int.reduceNeg, not_true_eq_false, not_false_eq_true]
      refine ih () _ ⟨e1.trans (e4.mono fun x k q => by unfold Stt; omega), ⟨(e4.g (by omega)).trans e2.1, (e4.g (by omega)).trans e2.2⟩, fun q w1 w2 => ?_⟩
      by_cases g : q = i
      · rw [g]
        exact c4 _ q2
      · exact (e3 q w1 (by omega)).ef e4 (fun x h1 h2 => by omega)
    · rintro _ h1 ⟨e1, e2, e3⟩
      have q1 : gA h1 719 fm = J G.1 := (e1.g (by unfold Stt; omega)).trans C.1
      rw [k280_33]
      simp +decide (maxSteps := 4000000) (disch := omega) only [k280_0, k280_1, k280_2, k280_3, k280_4, k280_5, k280_6, k280_7, k280_8, k280_9, k280_11, k280_13, k280_14, k280_15, k280_16, k280_17, k280_18, k280_19, k280_20, k280_21, k280_24, k280_25, k280_26, k280_27, k280_28, k280_29, k280_30, k280_31, k280_32, k280_34, k280_35, k280_36, k280_r, k280_s, F_il1, J_ifeq, F_il2, F_il4, T_I, F_il3, F_il5, T_iceq, J_icne, T_ft, T_ret, T_mul, T_icge, T_goto, F_is6i, F_is6r, F_is6m, F_is7i, F_is7r, F_is7m, F_al0, F_is8i, F_is8r, F_is8m, F_is9i, F_is9r, F_is9m, J_ifne, F_is10i, F_is10r, F_is10m, F_is11i, F_is11r, F_is11m, F_il9, F_il11, T_getR, F_il10, X_iald, T_add, F_il7, F_inc7i, F_inc7r, F_inc7m, F_inc11i, F_inc11r, F_inc11m, F_is12i, F_is12r, F_is12m, F_il6, F_il12, F_is13i, F_is13r, F_is13m, F_il13, T_getI, F_inc13i, F_inc13r, F_inc13m, T_iast, F_inc12i, F_inc12r, F_inc12m, F_il8, J_ifge, c218, c219, c227, c230, c258, c274, c281, ↓s218, ↓s219, FM F, q1, ln_719, show ¬ sm < 0 by omega, show 0 ≤ sm by omega, ↓reduceIte, TK, lt_run hn, le43, Int.le_refl, Int.lt_irrefl, Option.some.injEq, exists_eq_left', true_and, and_true, if_true, if_false, decide_eq_false_iff_not, decide_eq_true_eq, Nat.reduceAdd, Nat.reduceLeDiff, Nat.reduceLT, Int.reduceAdd, Int.reduceSub, Int.reduceMul, Int.reduceNeg, not_true_eq_false, not_false_eq_true]
      exact k h1 e1 e2.1 ⟨e2.2, e3⟩
  rw [k280_30]
  cases ea with
  | true =>
    rw [if_pos rfl] at hf
    subst hf
    simp +decide (maxSteps := 4000000) (disch := omega) only [k280_0, k280_1, k280_2, k280_3, k280_4, k280_5, k280_6, k280_7, k280_8, k280_9, k280_11, k280_13, k280_14, k280_15, k280_16, k280_17, k280_18, k280_19, k280_20, k280_21, k280_24, k280_25, k280_26, k280_27, k280_28, k280_29, k280_30, k280_31, k280_32, k280_34, k280_35, k280_36, k280_r, k280_s, F_il1, J_ifeq, F_il2, F_il4, T_I, F_il3, F_il5, T_iceq, J_icne, T_ft, T_ret, T_mul, T_icge, T_goto, F_is6i, F_is6r, F_is6m, F_is7i, F_is7r, F_is7m, F_al0, F_is8i, F_is8r, F_is8m, F_is9i, F_is9r, F_is9m, J_ifne, F_is10i, F_is10r, F_is10m, F_is11i, F_is11r, F_is11m, F_il9, F_il11, T_getR, F_il10, X_iald, T_add, F_il7, F_inc7i, F_inc7r, F_inc7m, F_inc11i, F_inc11r, F_inc11m, F_is12i, F_is12r, F_is12m, F_il6, F_il12, F_is13i, F_is13r, F_is13m, F_il13, T_getI, F_inc13i, F_inc13r, F_inc13m, T_iast, F_inc12i, F_inc12r, F_inc12m, F_il8, J_ifge, c218, c219, c227, c230, c258, c274, c281, ↓s218, ↓s219, FM F, d1, Bz_t, ln_708, ln_719, ↓reduceIte, TK, lt_run hn, le43, Int.le_refl, Int.lt_irrefl, Option.some.injEq, exists_eq_left', true_and, and_true, if_true, if_false, decide_eq_false_iff_not, decide_eq_true_eq, Nat.reduceAdd, Nat.reduceLeDiff, Nat.reduceLT, Int.reduceAdd, Int.reduceSub, Int.reduceMul, Int.reduceNeg, not_true_eq_false, not_false_eq_true]
    exact lp
  | false =>
    rw [if_neg (by decide)] at hf
    subst hf
    simp +decide (maxSteps := 4000000) (disch := omega) only [k280_0, k280_1, k280_2, k280_3, k280_4, k280_5, k280_6, k280_7, k280_8, k280_9, k280_11, k280_13, k280_14, k280_15, k280_16, k280_17, k280_18, k280_19, k280_20, k280_21, k280_24, k280_25, k280_26, k280_27, k280_28, k280_29, k280_30, k280_31, k280_32, k280_34, k280_35, k280_36, k280_r, k280_s, F_il1, J_ifeq, F_il2, F_il4, T_I, F_il3, F_il5, T_iceq, J_icne, T_ft, T_ret, T_mul, T_icge, T_goto, F_is6i, F_is6r, F_is6m, F_is7i, F_is7r, F_is7m, F_al0, F_is8i, F_is8r, F_is8m, F_is9i, F_is9r, F_is9m, J_ifne, F_is10i, F_is10r, F_is10m, F_is11i, F_is11r, F_is11m, F_il9, F_il11, T_getR, F_il10, X_iald, T_add, F_il7, F_inc7i, F_inc7r, F_inc7m, F_inc11i, F_inc11r, F_inc11m, F_is12i, F_is12r, F_is12m, F_il6, F_il12, F_is13i, F_is13r, F_is13m, F_il13, T_getI, F_inc13i, F_inc13r, F_inc13m, T_iast, F_inc12i, F_inc12r, F_inc12m, F_il8, J_ifge, c218, c219, c227, c230, c258, c274, c281, ↓s218, ↓s219, FM F, d1, Bz_f, ln_708, ln_719, ↓reduceIte, TK, lt_run hn, le43, Int.le_refl, Int.lt_irrefl, Option.some.injEq, exists_eq_left', true_and, and_true, if_true, if_false, decide_eq_false_iff_not, decide_eq_true_eq, Nat.reduceAdd, Nat.reduceLeDiff, Nat.reduceLT, Int.reduceAdd, Int.reduceSub, Int.reduceMul, Int.reduceNeg, not_true_eq_false, not_false_eq_true]
    exact lp
theorem z280a (F : FH hr) (hn : 775 ≤ n) {d e t fm sm : Int} {v6 : Int32} {v12 v13 : Value} (ht : 0 ≤ t ∧ t < 16) (hf : 0 ≤ fm ∧ fm < 16) (hne : fm ≠ t) (R : DRr D) (C : DM h fm D)
    (k : ∀ h' v11, Ef (Sy t.toNat) h h' → (∀ s, 0 ≤ s → s < D.1 → SM h' (8 * t + s) (D.2 s)) → Tm E 280 (a_bl 280 30) [.ref 704, .int (J d), .int (J e), .int (J a), .int (J b), .int (J t), .int v6, .int (J D.1), .int (J sm), .int (J 1), .int (J fm), v11, v12, v13] [] h' hr n Q) : Tm E 280 (a_bl 280 10) [.ref 704, .int (J d), .int (J e), .int (J a), .int (J b), .int (J t), .int v6, .int (J 0), .int (J sm), .int (J 1), .int (J fm), .int (J 0), v12, v13] [] h hr n Q := by
  have r1 := R.1
  have fr : ∀ {h'}, Ef (Sy t.toNat) h h' → gA h' 708 fm = J D.1 ∧ ∀ i, 0 ≤ i → i < D.1 → SM h' (8 * fm + i) (D.2 i) := fun e => by
    refine ⟨(e.g (fun q => by unfold Sy Sn at q; omega)).trans C.1, fun i i0 i1 => ?_⟩
    exact (C.2 i i0 i1).ef (by omega) (R.2 i).2.1.2 e (fun q => by unfold Sy Sn at q; omega) (fun q => by unfold Sy Sn at q; omega) (fun i _ _ => ⟨fun q => by unfold Sy Sn at q; omega, fun q => by unfold Sy Sn at q; omega⟩)
  refine T_for (σ := Unit) (fun i _ => [.ref 704, .int (J d), .int (J e), .int (J a), .int (J b), .int (J t), .int v6, .int (J i), .int (J sm), .int (J 1), .int (J fm), .int (J i), v12, v13]) (fun i _ h' => Ef (Sy t.toNat) h h' ∧ ∀ s, 0 ≤ s → s < i → SM h' (8 * t + s) (D.2 s)) 0 D.1 ?_ ?_ 0 () h (by omega) (by omega) ⟨Ef.refl, fun s _ _ => by omega⟩
  · rintro i _ h1 i0 i1 ⟨e1, e2⟩ ih
    obtain ⟨f1, f2⟩ := fr e1
    rw [k280_10]
    simp +decide (maxSteps := 4000000) (disch := omega) only [k280_0, k280_1, k280_2, k280_3, k280_4, k280_5, k280_6, k280_7, k280_8, k280_9, k280_11, k280_13, k280_14, k280_15, k280_16, k280_17, k280_18, k280_19, k280_20, k280_21, k280_24, k280_25, k280_26, k280_27, k280_28, k280_29, k280_30, k280_31, k280_32, k280_34, k280_35, k280_36, k280_r, k280_s, F_il1, J_ifeq, F_il2, F_il4, T_I, F_il3, F_il5, T_iceq, J_icne, T_ft, T_ret, T_mul, T_icge, T_goto, F_is6i, F_is6r, F_is6m, F_is7i, F_is7r, F_is7m, F_al0, F_is8i, F_is8r, F_is8m, F_is9i, F_is9r, F_is9m, J_ifne, F_is10i, F_is10r, F_is10m, F_is11i, F_is11r, F_is11m, F_il9, F_il11, T_getR, F_il10, X_iald, T_add, F_il7, F_inc7i, F_inc7r, F_inc7m, F_inc11i, F_inc11r, F_inc11m, F_is12i, F_is12r, F_is12m, F_il6, F_il12, F_is13i, F_is13r, F_is13m, F_il13, T_getI, F_inc13i, F_inc13r, F_inc13m, T_iast, F_inc12i, F_inc12r, F_inc12m, F_il8, J_ifge, c218, c219, c227, c230, c258, c274, c281, ↓s218, ↓s219, FM F, f1, ln_708, show ¬ D.1 ≤ i by omega, ↓reduceIte, TK, lt_run hn, le43, Int.le_refl, Int.lt_irrefl, Option.some.injEq, exists_eq_left', true_and, and_true, if_true, if_false, decide_eq_false_iff_not, decide_eq_true_eq, Nat.reduceAdd, Nat.reduceLeDiff, Nat.reduceLT, Int.reduceAdd, Int.reduceSub, Int.reduceMul, Int.reduceNeg, not_true_eq_false, not_false_eq_true]
    refine w230 F hn (by omega) (by omega) (by omega) (fun h2 e3 c3 => ?_)
    simp +decide (maxSteps := 4000000) (disch := omega) only [k280_0, k280_1, k280_2, k280_3, k280_4, k280_5, k280_6, k280_7, k280_8, k280_9, k280_11, k280_13, k280_14, k280_15, k280_16, k280_17, k280_18, k280_19, k280_20, k280_21, k280_24, k280_25, k280_26, k280_27, k280_28, k280_29, k280_30, k280_31, k280_32, k280_34, k280_35, k280_36, k280_r, k280_s, F_il1, J_ifeq, F_il2, F_il4, T_I, F_il3, F_il5, T_iceq, J_icne, T_ft, T_ret, T_mul, T_icge, T_goto, F_is6i, F_is6r, F_is6m, F_is7i, F_is7r, F_is7m, F_al0, F_is8i, F_is8r, F_is8m, F_is9i, F_is9r, F_is9m, J_ifne, F_is10i, F_is10r, F_is10m, F_is11i, F_is11r, F_is11m, F_il9, F_il11, T_getR, F_il10, X_iald, T_add, F_il7, F_inc7i, F_inc7r, F_inc7m, F_inc11i, F_inc11r, F_inc11m, F_is12i, F_is12r, F_is12m, F_il6, F_il12, F_is13i, F_is13r, F_is13m, F_il13, T_getI, F_inc13i, F_inc13r, F_inc13m, T_iast, F_inc12i, F_inc12r, F_inc12m, F_il8, J_ifge, c218, c219, c227, c230, c258, c274, c281, ↓s218, ↓s219, ↓reduceIte, TK, lt_run hn, le43, Int.le_refl, Int.lt_irrefl, Option.some.injEq, exists_eq_left', true_and, and_true, if_true, if_false, decide_eq_false_iff_not, decide_eq_true_eq, Nat.reduceAdd, Nat.reduceLeDiff, Nat.reduceLT, Int.reduceAdd, Int.reduceSub, Int.reduceMul, Int.reduceNeg, not_true_eq_false, not_false_eq_true]
    refine ih () _ ⟨e1.trans (e3.mono fun x k q => ?_), fun s s0 s1 => ?_⟩
    · unfold Sk at q
      unfold Sy
      omega
    · by_cases g : s = i
      · rw [g]
        exact c3 _ (f2 i i0 i1) (R.2 i).2.1.2
      · exact (e2 s s0 (by omega)).ef (by omega) (R.2 s).2.1.2 e3 (fun q => by unfold Sk at q; omega) (fun q => by unfold Sk at q; omega) (fun i _ _ => ⟨fun q => by unfold Sk at q; omega, fun q => by unfold Sk at q; omega⟩)
  · rintro _ h1 ⟨e1, e2⟩
    obtain ⟨f1, f2⟩ := fr e1
    rw [k280_10]
    simp +decide (maxSteps := 4000000) (disch := omega) only [k280_0, k280_1, k280_2, k280_3, k280_4, k280_5, k280_6, k280_7, k280_8, k280_9, k280_11, k280_13, k280_14, k280_15, k280_16, k280_17, k280_18, k280_19, k280_20, k280_21, k280_24, k280_25, k280_26, k280_27, k280_28, k280_29, k280_30, k280_31, k280_32, k280_34, k280_35, k280_36, k280_r, k280_s, F_il1, J_ifeq, F_il2, F_il4, T_I, F_il3, F_il5, T_iceq, J_icne, T_ft, T_ret, T_mul, T_icge, T_goto, F_is6i, F_is6r, F_is6m, F_is7i, F_is7r, F_is7m, F_al0, F_is8i, F_is8r, F_is8m, F_is9i, F_is9r, F_is9m, J_ifne, F_is10i, F_is10r, F_is10m, F_is11i, F_is11r, F_is11m, F_il9, F_il11, T_getR, F_il10, X_iald, T_add, F_il7, F_inc7i, F_inc7r, F_inc7m, F_inc11i, F_inc11r, F_inc11m, F_is12i, F_is12r, F_is12m, F_il6, F_il12, F_is13i, F_is13r, F_is13m, F_il13, T_getI, F_inc13i, F_inc13r, F_inc13m, T_iast, F_inc12i, F_inc12r, F_inc12m, F_il8, J_ifge, c218, c219, c227, c230, c258, c274, c281, ↓s218, ↓s219, FM F, f1, ln_708, ↓reduceIte, TK, lt_run hn, le43, Int.le_refl, Int.lt_irrefl, Option.some.injEq, exists_eq_left', true_and, and_true, if_true, if_false, decide_eq_false_iff_not, decide_eq_true_eq, Nat.reduceAdd, Nat.reduceLeDiff, Nat.reduceLT, Int.reduceAdd, Int.reduceSub, Int.reduceMul, Int.reduceNeg, not_true_eq_false, not_false_eq_true]
    rw [k280_12]
    simp +decide (maxSteps := 4000000) (disch := omega) only [k280_0, k280_1, k280_2, k280_3, k280_4, k280_5, k280_6, k280_7, k280_8, k280_9, k280_11, k280_13, k280_14, k280_15, k280_16, k280_17, k280_18, k280_19, k280_20, k280_21, k280_24, k280_25, k280_26, k280_27, k280_28, k280_29, k280_30, k280_31, k280_32, k280_34, k280_35, k280_36, k280_r, k280_s, F_il1, J_ifeq, F_il2, F_il4, T_I, F_il3, F_il5, T_iceq, J_icne, T_ft, T_ret, T_mul, T_icge, T_goto, F_is6i, F_is6r, F_is6m, F_is7i, F_is7r, F_is7m, F_al0, F_is8i, F_is8r, F_is8m, F_is9i, F_is9r, F_is9m, J_ifne, F_is10i, F_is10r, F_is10m, F_is11i, F_is11r, F_is11m, F_il9, F_il11, T_getR, F_il10, X_iald, T_add, F_il7, F_inc7i, F_inc7r, F_inc7m, F_inc11i, F_inc11r, F_inc11m, F_is12i, F_is12r, F_is12m, F_il6, F_il12, F_is13i, F_is13r, F_is13m, F_il13, T_getI, F_inc13i, F_inc13r, F_inc13m, T_iast, F_inc12i, F_inc12r, F_inc12m, F_il8, J_ifge, c218, c219, c227, c230, c258, c274, c281, ↓s218, ↓s219, ↓reduceIte, TK, lt_run hn, le43, Int.le_refl, Int.lt_irrefl, Option.some.injEq, exists_eq_left', true_and, and_true, if_true, if_false, decide_eq_false_iff_not, decide_eq_true_eq, Nat.reduceAdd, Nat.reduceLeDiff, Nat.reduceLT, Int.reduceAdd, Int.reduceSub, Int.reduceMul, Int.reduceNeg, not_true_eq_false, not_false_eq_true]
    rw [k280_22]
    simp +decide (maxSteps := 4000000) (disch := omega) only [k280_0, k280_1, k280_2, k280_3, k280_4, k280_5, k280_6, k280_7, k280_8, k280_9, k280_11, k280_13, k280_14, k280_15, k280_16, k280_17, k280_18, k280_19, k280_20, k280_21, k280_24, k280_25, k280_26, k280_27, k280_28, k280_29, k280_31, k280_32, k280_34, k280_35, k280_36, k280_r, k280_s, F_il1, J_ifeq, F_il2, F_il4, T_I, F_il3, F_il5, T_iceq, J_icne, T_ft, T_ret, T_mul, T_icge, T_goto, F_is6i, F_is6r, F_is6m, F_is7i, F_is7r, F_is7m, F_al0, F_is8i, F_is8r, F_is8m, F_is9i, F_is9r, F_is9m, J_ifne, F_is10i, F_is10r, F_is10m, F_is11i, F_is11r, F_is11m, F_il9, F_il11, T_getR, F_il10, X_iald, T_add, F_il7, F_inc7i, F_inc7r, F_inc7m, F_inc11i, F_inc11r, F_inc11m, F_is12i, F_is12r, F_is12m, F_il6, F_il12, F_is13i, F_is13r, F_is13m, F_il13, T_getI, F_inc13i, F_inc13r, F_inc13m, T_iast, F_inc12i, F_inc12r, F_inc12m, F_il8, J_ifge, c218, c219, c227, c230, c258, c274, c281, ↓s218, ↓s219, ↓reduceIte, TK, lt_run hn, le43, Int.le_refl, Int.lt_irrefl, Option.some.injEq, exists_eq_left', true_and, and_true, if_true, if_false, decide_eq_false_iff_not, decide_eq_true_eq, Nat.reduceAdd, Nat.reduceLeDiff, Nat.reduceLT, Int.reduceAdd, Int.reduceSub, Int.reduceMul, Int.reduceNeg, not_true_eq_false, not_false_eq_true]
    exact k h1 _ e1 e2
/-- strokes of the reference laid from a list -/
def LSm (h : AHi) (t : Int) (l : List Stk) : Prop := ∀ s : Int, 0 ≤ s → s < l.length → SM h (8 * t + s) ((lsD l).2 s)
theorem LSm_a {t : Int} {st : Stk} (ht : 0 ≤ t) (hl : l.length < 8) (hR : ∀ st ∈ l, SR st) (L : LSm h t l) (e : Ef (Sk (8 * t + (l.length : Int)).toNat) h h') (S : SM h' (8 * t + (l.length : Int)) st) : LSm h' t (l ++ [st]) := by
  intro s s0 s1
  rw [List.length_append] at s1
  by_cases g : s < l.length
  · rw [lsA_o (by omega)]
    have rs : SR ((lsD l).2 s) := hR _ (List.mem_of_getElem? (lsD_g s0 g))
    exact (L s s0 g).ef (by omega) rs.2.1.2 e (fun q => by unfold Sk at q; omega) (fun q => by unfold Sk at q; omega) (fun i _ _ => ⟨fun q => by unfold Sk at q; omega, fun q => by unfold Sk at q; omega⟩)
  · have e1 : s = (l.length : Int) := by
      have : (([st] : List Stk).length : Nat) = 1 := rfl
      omega
    rw [lsA_n (by omega), e1]
    exact S
theorem LSm.sn {t : Int} (ht : 0 ≤ t) (hl : l.length ≤ 8) (hR : ∀ st ∈ l, SR st) (L : LSm h t l) (e : Ef Sn h h') : LSm h' t l := fun s s0 s1 => by
  have rs : SR ((lsD l).2 s) := hR _ (List.mem_of_getElem? (lsD_g s0 s1))
  exact (L s s0 s1).ef (by omega) rs.2.1.2 e (fun q => by unfold Sn at q; omega) (fun q => by unfold Sn at q; omega) (fun i _ _ => ⟨fun q => by unfold Sn at q; omega, fun q => by unfold Sn at q; omega⟩)
end TD
