/-! pictures: a node of the class -/
section ND
variable {E : AEn} {h h' : AHi} {hr : AHr} {n : Nat} {Q : ARs → Prop} {e : PEn} {f i k : Int} {L : Int → Int → Pic} {T : Int → Int} {pr : Int → Pic}
theorem wrk_0 : wrk L f 0 T pr = fun _ => T 0 := rfl
theorem wrk_1 : wrk L f 1 T pr = L (T 0) (T 1) := rfl
theorem wrk_2 : wrk L f 2 T pr = pcO (pr (T 0)) (pr (T 1)) := rfl
theorem wrk_3 : wrk L f 3 T pr = pcS (pr (T 0)) (T 1) (T 2) := rfl
theorem wrk_4 : wrk L f 4 T pr = pcM (pr (T 0)) (pr (T 1)) := rfl
theorem wrk_5 : wrk L f 5 T pr = pcF (pr (T 0)) (pr (T 1)) (f - T 2) (T 3 - T 2) := rfl
theorem wrk_6 : wrk L f 6 T pr = pcB (pr (T 0)) := rfl
theorem wrk_7 : wrk L f 7 T pr = pcK T f (T 3).toNat := rfl
theorem s344 (hn : 775 ≤ n) (hk : 0 ≤ k ∧ k ≤ 7) : Sp E 344 [.ref (4 + k.toNat)] h hr n Q ↔ Q (some (.int (J k)), h, hr, n) := by
  obtain ⟨⟨v1, v2, v3⟩, _⟩ := kn_i (E := E) (h := h) hk
  have y1 : 4 + k.toNat < n := by omega
  simp +decide (maxSteps := 4000000) (disch := omega) only [k344_0, k344_r, k344_s, F_al0, T_getI, T_ret, v1, v3, y1, ↓reduceIte, TK, lt_run hn, le43, Int.le_refl, Int.lt_irrefl, Option.some.injEq, exists_eq_left', true_and, and_true, if_true, if_false, decide_eq_false_iff_not, decide_eq_true_eq, Nat.reduceAdd, Nat.reduceLeDiff, Nat.reduceLT, Int.reduceAdd, Int.reduceSub, Int.reduceMul, Int.reduceNeg, not_true_eq_false, not_false_eq_true]
theorem AR_127 (E : AEn) (F : FH hr) {j : Int} (h0 : 0 ≤ j) (h1 : j < 10) : AR E (128 + j.toNat) := by
  have x := X127 E F h0 h1
  exact ⟨x.2.1, x.2.2, by omega, by omega⟩
theorem w95 (F : FH hr) (hn : 775 ≤ n) (W : PW h hr e) (hi : 0 ≤ i ∧ i < e.m) (hk : e.K i ≠ 1) (hf : 0 ≤ f ∧ f ≤ 119) (pr : ∀ q, 0 ≤ q → q < nnd (e.K i) → PA h (128 + (e.T i q).toNat) (PN e f (e.T i q)))
    (k : ∀ h', Ef (fun x _ => x = 128 + i.toNat) h h' → PA h' (128 + i.toNat) (PN e f i) → Q (none, h', hr, n)) : Sp E 95 [.ref 113, .int (J i), .int (J f)] h hr n Q := by
  obtain ⟨_, _, _, _, _, _, _, n1, n2, n3, n4, n5, n6⟩ := id W
  have im : i < 10 := by omega
  have x1 := X127 E F hi.1 im
  have x2 := X115 E F hi.1 (show i < 11 by omega)
  obtain ⟨o1, _, t1⟩ := n6 i hi.1 hi.2
  have kr := n2 i
  obtain ⟨⟨v1, v2, v3⟩, v4⟩ := kn_i (E := E) (h := h) kr
  have y1 : 4 + (e.K i).toNat < n := by omega
  have s0 := fun {Q} => s96 (E := E) (Q := Q) F hn W hi (q := 0) (Or.inl rfl)
  have s1 := fun {Q} => s96 (E := E) (Q := Q) F hn W hi (q := 1) (Or.inr rfl)
  have A := n3 i hi.1 hi.2
  have G0 := AR_127 E F hi.1 im
  have pe := PN_s W f hi.1 hi.2
  have kd2 : a_kd 2 = 20 := rfl
  have ln2 : a_ln E 2 = 8 := rfl
  have up : ∀ j, 0 ≤ j → j < i → AR E (128 + j.toNat) ∧ pcR (PN e f j) ∧ 128 + j.toNat ≠ 128 + i.toNat ∧ (hr 127 j.toNat = some (128 + j.toNat) ∧ a_kd (128 + j.toNat) = 20) := fun j j0 j1 => ⟨AR_127 E F j0 (by omega), PN_r W f j0 (by omega), by omega, (X127 E F j0 (by omega)).1, (X127 E F j0 (by omega)).2.1⟩
  have ky := fun {Q} => s344 (E := E) (h := h) (hr := hr) (Q := Q) hn kr
  rcases (show e.K i = 0 ∨ e.K i = 2 ∨ e.K i = 3 ∨ e.K i = 4 ∨ e.K i = 5 ∨ e.K i = 6 ∨ e.K i = 7 by omega) with c | c | c | c | c | c | c
  · have t0 := (t1 0 (by decide) (by rw [c]; decide)).1
    rw [c] at pe v2 v4 s0 s1 ky o1 v1 y1
    rw [wrk_0] at pe
    rw [show nnd 0 = 0 from rfl, if_neg (by decide)] at s0 s1
    rw [show swk 0 = 1 from rfl] at v4
    have sw : a_sw 1 8 [1, 2, 3, 4, 5, 6, 7] (J 1) = 1 := by decide +kernel
    simp +decide (maxSteps := 4000000) (disch := omega) only [k95_0, k95_1, k95_2, k95_3, k95_4, k95_5, k95_6, k95_7, k95_8, k95_9, k95_r, k95_s, F_al0, T_getR, F_il1, X_aald, F_as3i, F_as3r, F_as3m, T_I, F_as4i, F_as4r, F_as4m, F_as5i, F_as5r, F_as5m, T_cR, X_iald, T_sw, F_al3, T_goto, F_al4, F_al5, F_il2, T_sub, T_ft, T_ret, c96, c97, c98, c99, c100, c102, c104, c344, c356, FX F, sw, x1, x2, o1, v1, y1, v4, kd2, ln2, ↓s0, ↓s1, ky, t0, kd_114, ln_114, kd_115, ln_115, kd_127, ln_127, ↓reduceIte, TK, lt_run hn, le43, Int.le_refl, Int.lt_irrefl, Option.some.injEq, exists_eq_left', true_and, and_true, if_true, if_false, decide_eq_false_iff_not, decide_eq_true_eq, Nat.reduceAdd, Nat.reduceLeDiff, Nat.reduceLT, Int.reduceAdd, Int.reduceSub, Int.reduceMul, Int.reduceNeg, not_true_eq_false, not_false_eq_true]
    refine w356 hn G0.1 G0.2.1 G0.2.2 (fun h1 q1 e1 => ?_)
    simp +decide (maxSteps := 4000000) (disch := omega) only [k95_0, k95_1, k95_2, k95_3, k95_4, k95_5, k95_6, k95_7, k95_8, k95_9, k95_r, k95_s, F_al0, T_getR, F_il1, X_aald, F_as3i, F_as3r, F_as3m, T_I, F_as4i, F_as4r, F_as4m, F_as5i, F_as5r, F_as5m, T_cR, X_iald, T_sw, F_al3, T_goto, F_al4, F_al5, F_il2, T_sub, T_ft, T_ret, c96, c97, c98, c99, c100, c102, c104, c344, c356, ↓s96, ↓s344, ↓reduceIte, TK, lt_run hn, le43, Int.le_refl, Int.lt_irrefl, Option.some.injEq, exists_eq_left', true_and, and_true, if_true, if_false, decide_eq_false_iff_not, decide_eq_true_eq, Nat.reduceAdd, Nat.reduceLeDiff, Nat.reduceLT, Int.reduceAdd, Int.reduceSub, Int.reduceMul, Int.reduceNeg, not_true_eq_false, not_false_eq_true]
    exact k h1 e1 (by rw [pe]; exact q1)
  · have p0 := pr 0 (by decide) (by rw [c]; decide)
    have p1 := pr 1 (by decide) (by rw [c]; decide)
    obtain ⟨a0, a1⟩ := A.2.2.1 (Or.inl c)
    obtain ⟨u1, u2, u3, u4⟩ := up _ a0.1 a0.2
    obtain ⟨w1, w2, w3, w4⟩ := up _ a1.1 a1.2
    rw [c] at pe v2 v4 s0 s1 ky o1 v1 y1
    rw [wrk_2] at pe
    rw [show nnd 2 = 2 from rfl, if_pos (by decide)] at s0 s1
    rw [show swk 2 = 2 from rfl] at v4
    have sw : a_sw 1 8 [1, 2, 3, 4, 5, 6, 7] (J 2) = 2 := by decide +kernel
    simp +decide (maxSteps := 4000000) (disch := omega) only [k95_0, k95_1, k95_2, k95_3, k95_4, k95_5, k95_6, k95_7, k95_8, k95_9, k95_r, k95_s, F_al0, T_getR, F_il1, X_aald, F_as3i, F_as3r, F_as3m, T_I, F_as4i, F_as4r, F_as4m, F_as5i, F_as5r, F_as5m, T_cR, X_iald, T_sw, F_al3, T_goto, F_al4, F_al5, F_il2, T_sub, T_ft, T_ret, c96, c97, c98, c99, c100, c102, c104, c344, c356, FX F, sw, x1, x2, o1, v1, y1, v4, kd2, ln2, ↓s0, ↓s1, ky, u4, w4, kd_114, ln_114, kd_115, ln_115, kd_127, ln_127, ↓reduceIte, TK, lt_run hn, le43, Int.le_refl, Int.lt_irrefl, Option.some.injEq, exists_eq_left', true_and, and_true, if_true, if_false, decide_eq_false_iff_not, decide_eq_true_eq, Nat.reduceAdd, Nat.reduceLeDiff, Nat.reduceLT, Int.reduceAdd, Int.reduceSub, Int.reduceMul, Int.reduceNeg, not_true_eq_false, not_false_eq_true]
    refine w97 hn G0 u1 w1 u3 w3 p0 p1 u2 w2 (fun h1 q1 e1 => ?_)
    simp +decide (maxSteps := 4000000) (disch := omega) only [k95_0, k95_1, k95_2, k95_3, k95_4, k95_5, k95_6, k95_7, k95_8, k95_9, k95_r, k95_s, F_al0, T_getR, F_il1, X_aald, F_as3i, F_as3r, F_as3m, T_I, F_as4i, F_as4r, F_as4m, F_as5i, F_as5r, F_as5m, T_cR, X_iald, T_sw, F_al3, T_goto, F_al4, F_al5, F_il2, T_sub, T_ft, T_ret, c96, c97, c98, c99, c100, c102, c104, c344, c356, ↓s96, ↓s344, ↓reduceIte, TK, lt_run hn, le43, Int.le_refl, Int.lt_irrefl, Option.some.injEq, exists_eq_left', true_and, and_true, if_true, if_false, decide_eq_false_iff_not, decide_eq_true_eq, Nat.reduceAdd, Nat.reduceLeDiff, Nat.reduceLT, Int.reduceAdd, Int.reduceSub, Int.reduceMul, Int.reduceNeg, not_true_eq_false, not_false_eq_true]
    exact k h1 e1 (by rw [pe]; exact q1)
  · have p0 := pr 0 (by decide) (by rw [c]; decide)
    have t2 := (t1 1 (by decide) (by rw [c]; decide)).1
    have t3 := (t1 2 (by decide) (by rw [c]; decide)).1
    obtain ⟨a0, a1, a2⟩ := A.2.2.2.1 c
    obtain ⟨u1, u2, u3, u4⟩ := up _ a0.1 a0.2
    rw [c] at pe v2 v4 s0 s1 ky o1 v1 y1
    rw [wrk_3] at pe
    rw [show nnd 3 = 1 from rfl, if_pos (by decide)] at s0
    rw [show nnd 3 = 1 from rfl, if_neg (by decide)] at s1
    rw [show swk 3 = 3 from rfl] at v4
    have sw : a_sw 1 8 [1, 2, 3, 4, 5, 6, 7] (J 3) = 3 := by decide +kernel
    simp +decide (maxSteps := 4000000) (disch := omega) only [k95_0, k95_1, k95_2, k95_3, k95_4, k95_5, k95_6, k95_7, k95_8, k95_9, k95_r, k95_s, F_al0, T_getR, F_il1, X_aald, F_as3i, F_as3r, F_as3m, T_I, F_as4i, F_as4r, F_as4m, F_as5i, F_as5r, F_as5m, T_cR, X_iald, T_sw, F_al3, T_goto, F_al4, F_al5, F_il2, T_sub, T_ft, T_ret, c96, c97, c98, c99, c100, c102, c104, c344, c356, FX F, sw, x1, x2, o1, v1, y1, v4, kd2, ln2, ↓s0, ↓s1, ky, u4, t2, t3, kd_114, ln_114, kd_115, ln_115, kd_127, ln_127, ↓reduceIte, TK, lt_run hn, le43, Int.le_refl, Int.lt_irrefl, Option.some.injEq, exists_eq_left', true_and, and_true, if_true, if_false, decide_eq_false_iff_not, decide_eq_true_eq, Nat.reduceAdd, Nat.reduceLeDiff, Nat.reduceLT, Int.reduceAdd, Int.reduceSub, Int.reduceMul, Int.reduceNeg, not_true_eq_false, not_false_eq_true]
    refine w98 hn G0 u1 u3 a1 a2 p0 (fun h1 q1 e1 => ?_)
    simp +decide (maxSteps := 4000000) (disch := omega) only [k95_0, k95_1, k95_2, k95_3, k95_4, k95_5, k95_6, k95_7, k95_8, k95_9, k95_r, k95_s, F_al0, T_getR, F_il1, X_aald, F_as3i, F_as3r, F_as3m, T_I, F_as4i, F_as4r, F_as4m, F_as5i, F_as5r, F_as5m, T_cR, X_iald, T_sw, F_al3, T_goto, F_al4, F_al5, F_il2, T_sub, T_ft, T_ret, c96, c97, c98, c99, c100, c102, c104, c344, c356, ↓s96, ↓s344, ↓reduceIte, TK, lt_run hn, le43, Int.le_refl, Int.lt_irrefl, Option.some.injEq, exists_eq_left', true_and, and_true, if_true, if_false, decide_eq_false_iff_not, decide_eq_true_eq, Nat.reduceAdd, Nat.reduceLeDiff, Nat.reduceLT, Int.reduceAdd, Int.reduceSub, Int.reduceMul, Int.reduceNeg, not_true_eq_false, not_false_eq_true]
    exact k h1 e1 (by rw [pe]; exact q1)
  · have p0 := pr 0 (by decide) (by rw [c]; decide)
    have p1 := pr 1 (by decide) (by rw [c]; decide)
    obtain ⟨a0, a1⟩ := A.2.2.1 (Or.inr c)
    obtain ⟨u1, u2, u3, u4⟩ := up _ a0.1 a0.2
    obtain ⟨w1, w2, w3, w4⟩ := up _ a1.1 a1.2
    rw [c] at pe v2 v4 s0 s1 ky o1 v1 y1
    rw [wrk_4] at pe
    rw [show nnd 4 = 2 from rfl, if_pos (by decide)] at s0 s1
    rw [show swk 4 = 4 from rfl] at v4
    have sw : a_sw 1 8 [1, 2, 3, 4, 5, 6, 7] (J 4) = 4 := by decide +kernel
    simp +decide (maxSteps := 4000000) (disch := omega) only [k95_0, k95_1, k95_2, k95_3, k95_4, k95_5, k95_6, k95_7, k95_8, k95_9, k95_r, k95_s, F_al0, T_getR, F_il1, X_aald, F_as3i, F_as3r, F_as3m, T_I, F_as4i, F_as4r, F_as4m, F_as5i, F_as5r, F_as5m, T_cR, X_iald, T_sw, F_al3, T_goto, F_al4, F_al5, F_il2, T_sub, T_ft, T_ret, c96, c97, c98, c99, c100, c102, c104, c344, c356, FX F, sw, x1, x2, o1, v1, y1, v4, kd2, ln2, ↓s0, ↓s1, ky, u4, w4, kd_114, ln_114, kd_115, ln_115, kd_127, ln_127, ↓reduceIte, TK, lt_run hn, le43, Int.le_refl, Int.lt_irrefl, Option.some.injEq, exists_eq_left', true_and, and_true, if_true, if_false, decide_eq_false_iff_not, decide_eq_true_eq, Nat.reduceAdd, Nat.reduceLeDiff, Nat.reduceLT, Int.reduceAdd, Int.reduceSub, Int.reduceMul, Int.reduceNeg, not_true_eq_false, not_false_eq_true]
    refine w99 hn G0 u1 w1 u3 w3 p0 p1 w2 (fun h1 q1 e1 => ?_)
    simp +decide (maxSteps := 4000000) (disch := omega) only [k95_0, k95_1, k95_2, k95_3, k95_4, k95_5, k95_6, k95_7, k95_8, k95_9, k95_r, k95_s, F_al0, T_getR, F_il1, X_aald, F_as3i, F_as3r, F_as3m, T_I, F_as4i, F_as4r, F_as4m, F_as5i, F_as5r, F_as5m, T_cR, X_iald, T_sw, F_al3, T_goto, F_al4, F_al5, F_il2, T_sub, T_ft, T_ret, c96, c97, c98, c99, c100, c102, c104, c344, c356, ↓s96, ↓s344, ↓reduceIte, TK, lt_run hn, le43, Int.le_refl, Int.lt_irrefl, Option.some.injEq, exists_eq_left', true_and, and_true, if_true, if_false, decide_eq_false_iff_not, decide_eq_true_eq, Nat.reduceAdd, Nat.reduceLeDiff, Nat.reduceLT, Int.reduceAdd, Int.reduceSub, Int.reduceMul, Int.reduceNeg, not_true_eq_false, not_false_eq_true]
    exact k h1 e1 (by rw [pe]; exact q1)
  · have p0 := pr 0 (by decide) (by rw [c]; decide)
    have p1 := pr 1 (by decide) (by rw [c]; decide)
    have t2 := (t1 2 (by decide) (by rw [c]; decide)).1
    have t3 := (t1 3 (by decide) (by rw [c]; decide)).1
    obtain ⟨a0, a1, a2, a3, a4⟩ := A.2.2.2.2.1 c
    obtain ⟨u1, u2, u3, u4⟩ := up _ a0.1 a0.2
    obtain ⟨w1, w2, w3, w4⟩ := up _ a1.1 a1.2
    rw [c] at pe v2 v4 s0 s1 ky o1 v1 y1
    rw [wrk_5] at pe
    rw [show nnd 5 = 2 from rfl, if_pos (by decide)] at s0 s1
    rw [show swk 5 = 5 from rfl] at v4
    have sw : a_sw 1 8 [1, 2, 3, 4, 5, 6, 7] (J 5) = 5 := by decide +kernel
    simp +decide (maxSteps := 4000000) (disch := omega) only [k95_0, k95_1, k95_2, k95_3, k95_4, k95_5, k95_6, k95_7, k95_8, k95_9, k95_r, k95_s, F_al0, T_getR, F_il1, X_aald, F_as3i, F_as3r, F_as3m, T_I, F_as4i, F_as4r, F_as4m, F_as5i, F_as5r, F_as5m, T_cR, X_iald, T_sw, F_al3, T_goto, F_al4, F_al5, F_il2, T_sub, T_ft, T_ret, c96, c97, c98, c99, c100, c102, c104, c344, c356, FX F, sw, x1, x2, o1, v1, y1, v4, kd2, ln2, ↓s0, ↓s1, ky, u4, w4, t2, t3, kd_114, ln_114, kd_115, ln_115, kd_127, ln_127, ↓reduceIte, TK, lt_run hn, le43, Int.le_refl, Int.lt_irrefl, Option.some.injEq, exists_eq_left', true_and, and_true, if_true, if_false, decide_eq_false_iff_not, decide_eq_true_eq, Nat.reduceAdd, Nat.reduceLeDiff, Nat.reduceLT, Int.reduceAdd, Int.reduceSub, Int.reduceMul, Int.reduceNeg, not_true_eq_false, not_false_eq_true]
    refine w100 hn G0 u1 w1 u3 w3 p0 p1 u2 w2 (z := f - e.T i 2) (m := e.T i 3 - e.T i 2) (by omega) (by omega) (fun h1 q1 e1 => ?_)
    simp +decide (maxSteps := 4000000) (disch := omega) only [k95_0, k95_1, k95_2, k95_3, k95_4, k95_5, k95_6, k95_7, k95_8, k95_9, k95_r, k95_s, F_al0, T_getR, F_il1, X_aald, F_as3i, F_as3r, F_as3m, T_I, F_as4i, F_as4r, F_as4m, F_as5i, F_as5r, F_as5m, T_cR, X_iald, T_sw, F_al3, T_goto, F_al4, F_al5, F_il2, T_sub, T_ft, T_ret, c96, c97, c98, c99, c100, c102, c104, c344, c356, ↓s96, ↓s344, ↓reduceIte, TK, lt_run hn, le43, Int.le_refl, Int.lt_irrefl, Option.some.injEq, exists_eq_left', true_and, and_true, if_true, if_false, decide_eq_false_iff_not, decide_eq_true_eq, Nat.reduceAdd, Nat.reduceLeDiff, Nat.reduceLT, Int.reduceAdd, Int.reduceSub, Int.reduceMul, Int.reduceNeg, not_true_eq_false, not_false_eq_true]
    exact k h1 e1 (by rw [pe]; exact q1)
  · have p0 := pr 0 (by decide) (by rw [c]; decide)
    have a0 := A.2.2.2.2.2.1 c
    obtain ⟨u1, u2, u3, u4⟩ := up _ a0.1 a0.2
    rw [c] at pe v2 v4 s0 s1 ky o1 v1 y1
    rw [wrk_6] at pe
    rw [show nnd 6 = 1 from rfl, if_pos (by decide)] at s0
    rw [show nnd 6 = 1 from rfl, if_neg (by decide)] at s1
    rw [show swk 6 = 6 from rfl] at v4
    have sw : a_sw 1 8 [1, 2, 3, 4, 5, 6, 7] (J 6) = 6 := by decide +kernel
    simp +decide (maxSteps := 4000000) (disch := omega) only [k95_0, k95_1, k95_2, k95_3, k95_4, k95_5, k95_6, k95_7, k95_8, k95_9, k95_r, k95_s, F_al0, T_getR, F_il1, X_aald, F_as3i, F_as3r, F_as3m, T_I, F_as4i, F_as4r, F_as4m, F_as5i, F_as5r, F_as5m, T_cR, X_iald, T_sw, F_al3, T_goto, F_al4, F_al5, F_il2, T_sub, T_ft, T_ret, c96, c97, c98, c99, c100, c102, c104, c344, c356, FX F, sw, x1, x2, o1, v1, y1, v4, kd2, ln2, ↓s0, ↓s1, ky, u4, kd_114, ln_114, kd_115, ln_115, kd_127, ln_127, ↓reduceIte, TK, lt_run hn, le43, Int.le_refl, Int.lt_irrefl, Option.some.injEq, exists_eq_left', true_and, and_true, if_true, if_false, decide_eq_false_iff_not, decide_eq_true_eq, Nat.reduceAdd, Nat.reduceLeDiff, Nat.reduceLT, Int.reduceAdd, Int.reduceSub, Int.reduceMul, Int.reduceNeg, not_true_eq_false, not_false_eq_true]
    refine w102 hn G0 u1 u3 p0 u2 (fun h1 q1 e1 => ?_)
    simp +decide (maxSteps := 4000000) (disch := omega) only [k95_0, k95_1, k95_2, k95_3, k95_4, k95_5, k95_6, k95_7, k95_8, k95_9, k95_r, k95_s, F_al0, T_getR, F_il1, X_aald, F_as3i, F_as3r, F_as3m, T_I, F_as4i, F_as4r, F_as4m, F_as5i, F_as5r, F_as5m, T_cR, X_iald, T_sw, F_al3, T_goto, F_al4, F_al5, F_il2, T_sub, T_ft, T_ret, c96, c97, c98, c99, c100, c102, c104, c344, c356, ↓s96, ↓s344, ↓reduceIte, TK, lt_run hn, le43, Int.le_refl, Int.lt_irrefl, Option.some.injEq, exists_eq_left', true_and, and_true, if_true, if_false, decide_eq_false_iff_not, decide_eq_true_eq, Nat.reduceAdd, Nat.reduceLeDiff, Nat.reduceLT, Int.reduceAdd, Int.reduceSub, Int.reduceMul, Int.reduceNeg, not_true_eq_false, not_false_eq_true]
    exact k h1 e1 (by rw [pe]; exact q1)
  · obtain ⟨a0, a1, a2, a3, a4⟩ := A.2.2.2.2.2.2 c
    have tt : ∀ q, 0 ≤ q → q < 5 → gA h (116 + i.toNat) q = J (e.T i q) := fun q q0 q1 => (t1 q q0 (by rw [c]; exact q1)).1
    rw [c] at pe v2 v4 s0 s1 ky o1 v1 y1
    rw [wrk_7] at pe
    rw [show nnd 7 = 0 from rfl, if_neg (by decide)] at s0 s1
    rw [show swk 7 = 7 from rfl] at v4
    have sw : a_sw 1 8 [1, 2, 3, 4, 5, 6, 7] (J 7) = 7 := by decide +kernel
    simp +decide (maxSteps := 4000000) (disch := omega) only [k95_0, k95_1, k95_2, k95_3, k95_4, k95_5, k95_6, k95_7, k95_8, k95_9, k95_r, k95_s, F_al0, T_getR, F_il1, X_aald, F_as3i, F_as3r, F_as3m, T_I, F_as4i, F_as4r, F_as4m, F_as5i, F_as5r, F_as5m, T_cR, X_iald, T_sw, F_al3, T_goto, F_al4, F_al5, F_il2, T_sub, T_ft, T_ret, c96, c97, c98, c99, c100, c102, c104, c344, c356, FX F, sw, x1, x2, o1, v1, y1, v4, kd2, ln2, ↓s0, ↓s1, ky, kd_114, ln_114, kd_115, ln_115, kd_127, ln_127, ↓reduceIte, TK, lt_run hn, le43, Int.le_refl, Int.lt_irrefl, Option.some.injEq, exists_eq_left', true_and, and_true, if_true, if_false, decide_eq_false_iff_not, decide_eq_true_eq, Nat.reduceAdd, Nat.reduceLeDiff, Nat.reduceLT, Int.reduceAdd, Int.reduceSub, Int.reduceMul, Int.reduceNeg, not_true_eq_false, not_false_eq_true]
    refine w104 hn G0 x2.2.1 x2.2.2 (by omega) (by omega) hf tt a1 a2 a3 (fun h1 q1 e1 => ?_)
    simp +decide (maxSteps := 4000000) (disch := omega) only [k95_0, k95_1, k95_2, k95_3, k95_4, k95_5, k95_6, k95_7, k95_8, k95_9, k95_r, k95_s, F_al0, T_getR, F_il1, X_aald, F_as3i, F_as3r, F_as3m, T_I, F_as4i, F_as4r, F_as4m, F_as5i, F_as5r, F_as5m, T_cR, X_iald, T_sw, F_al3, T_goto, F_al4, F_al5, F_il2, T_sub, T_ft, T_ret, c96, c97, c98, c99, c100, c102, c104, c344, c356, ↓s96, ↓s344, ↓reduceIte, TK, lt_run hn, le43, Int.le_refl, Int.lt_irrefl, Option.some.injEq, exists_eq_left', true_and, and_true, if_true, if_false, decide_eq_false_iff_not, decide_eq_true_eq, Nat.reduceAdd, Nat.reduceLeDiff, Nat.reduceLT, Int.reduceAdd, Int.reduceSub, Int.reduceMul, Int.reduceNeg, not_true_eq_false, not_false_eq_true]
    exact k h1 e1 (by rw [pe]; exact q1)
end ND
