/-! INK of the reference -/
/-- a wiggle -/
def wgl (S : Int32) (V M fr i j a : Int) : Int := ush (hsh S (J (fr / V)) (J i) (J j) (J a)) 8 % (2 * M + 1) - M
/-- a drawing whose points are moved -/
def wgD (D : Drw) (off : Int → Int → Int → Int) : Drw := (D.1, fun i => ((D.2 i).1, (D.2 i).2.1, fun j => kpt ((D.2 i).2.2.1 j + off i j 0) 47, fun j => kpt ((D.2 i).2.2.2 j + off i j 1) 31))
def off0 : Int → Int → Int → Int := fun _ _ _ => 0
theorem kpt_r (v m : Int) (h : 0 ≤ m) : 0 ≤ kpt v m ∧ kpt v m ≤ m := by
  unfold kpt
  split
  · omega
  · split <;> omega
theorem wgD_r {D : Drw} (R : DRr D) (off : Int → Int → Int → Int) : DRr (wgD D off) := ⟨R.1, fun i => ⟨(R.2 i).1, (R.2 i).2.1, fun j => ⟨kpt_r _ _ (by decide), kpt_r _ _ (by decide)⟩⟩⟩
theorem wgD_0 {D : Drw} (R : DRr D) : wgD D off0 = D := by
  obtain ⟨m, f⟩ := D
  unfold wgD off0
  dsimp only
  congr 1
  funext i
  have r := (R.2 i).2.2
  have k1 : ∀ v m : Int, 0 ≤ v → v ≤ m → kpt (v + 0) m = v := fun v m h1 h2 => by
    unfold kpt
    rw [Int.add_zero, if_neg (by omega), if_neg (by omega)]
  have e1 : (fun j => kpt ((f i).2.2.1 j + 0) 47) = (f i).2.2.1 := funext fun j => k1 _ _ (r j).1.1 (r j).1.2
  have e2 : (fun j => kpt ((f i).2.2.2 j + 0) 31) = (f i).2.2.2 := funext fun j => k1 _ _ (r j).2.1 (r j).2.2
  rw [e1, e2]
theorem wgl_r {S : Int32} {V M fr i j a : Int} (h : 0 ≤ M ∧ M ≤ 3) : -3 ≤ wgl S V M fr i j a ∧ wgl S V M fr i j a ≤ 3 := by
  have := ush8_r (hsh S (J (fr / V)) (J i) (J j) (J a))
  unfold wgl
  generalize ush (hsh S (J (fr / V)) (J i) (J j) (J a)) 8 = u at *
  have h1 := Int.emod_nonneg u (show 2 * M + 1 ≠ 0 by omega)
  have h2 := Int.emod_lt_of_pos u (show 0 < 2 * M + 1 by omega)
  omega
theorem J_n0 {a : Int} (h : -2147483648 ≤ a ∧ a < 2147483648 ∧ a ≠ 0) : J a ≠ 0 := fun q => h.2.2 (by
  have e : (J a = J 0) = (a = 0) := J_eq h.1 h.2.1 (by decide) (by decide)
  exact e.mp q)
/-- what the reference's ink changes -/
def Sdr (a k : Nat) : Prop := (724 ≤ a ∧ a ≤ 726) ∨ (a = 704 ∧ (k = 16 ∨ k = 17))
/-- how the reference moves points: by layer l, frame fr -/
def Wof (h : AHi) (l fr : Int) (off : Int → Int → Int → Int) : Prop := (l = -1 ∧ ∀ i j a, off i j a = 0) ∨ ((0 ≤ l ∧ l < 4) ∧ (0 ≤ fr ∧ fr < 120) ∧ ∃ (S : Int32) (V M : Int), (gA h 763 l = S ∧ gA h 761 l = J V ∧ gA h 762 l = J M) ∧ (0 ≤ V ∧ V ≤ 24) ∧ (0 ≤ M ∧ M ≤ 3) ∧ ((V = 0 ∧ ∀ i j a, off i j a = 0) ∨ (0 < V ∧ ∀ i j a, off i j a = wgl S V M fr i j a)))
section DR
variable {E : AEn} {h h' : AHi} {hr : AHr} {n : Nat} {Q : ARs → Prop} {f : Int → Int} {l fr : Int} {off : Int → Int → Int → Int}
theorem Wof.ef {S : Nat → Nat → Prop} (W : Wof h l fr off) (e : Ef S h h') (hs : ∀ a k, a = 761 ∨ a = 762 ∨ a = 763 → ¬ S a k) : Wof h' l fr off := by
  rcases W with W | ⟨w1, w2, T, V, M, ⟨w3, w4, w5⟩, w6⟩
  · exact Or.inl W
  · refine Or.inr ⟨w1, w2, T, V, M, ⟨?_, ?_, ?_⟩, w6⟩
    · rw [e.g (hs _ _ (Or.inr (Or.inr rfl)))]
      exact w3
    · rw [e.g (hs _ _ (Or.inl rfl))]
      exact w4
    · rw [e.g (hs _ _ (Or.inr (Or.inl rfl)))]
      exact w5
theorem Wof.r (W : Wof h l fr off) (i j a : Int) : -3 ≤ off i j a ∧ off i j a ≤ 3 := by
  rcases W with W | ⟨w1, w2, T, V, M, w3, w4, w5, w6 | w6⟩
  · rw [W.2]
    omega
  · rw [w6.2]
    omega
  · rw [w6.2]
    exact wgl_r w5
theorem z251a (F : FH hr) (hn : 775 ≤ n) {d i k0 : Int} {s : Stk} (hi : 0 ≤ i ∧ i < 8) (hk : 0 ≤ k0 ∧ k0 < 128) (R : SR s) (W : Wof h l fr off) (C : SM h k0 s) (v7 v8 v9 : Value)
    (k : ∀ h' v7 v8 v9, Ef (fun a k => (a = 724 ∨ a = 725) ∧ 10 * i.toNat ≤ k ∧ k < 10 * i.toNat + 10) h h' → (∀ j, 0 ≤ j → j < s.2.1 → gA h' 724 (10 * i + j) = J (kpt (s.2.2.1 j + off i j 0) 47) ∧ gA h' 725 (10 * i + j) = J (kpt (s.2.2.2 j + off i j 1) 31)) → Tm E 251 (a_bl 251 6) [.ref 704, .int (J d), .int (J l), .int (J fr), .int (J i), .int (J k0), .int (J s.2.1), v7, v8, v9] [] h' hr n Q) :
    Tm E 251 (a_bl 251 4) [.ref 704, .int (J d), .int (J l), .int (J fr), .int (J i), .int (J k0), .int (J 0), v7, v8, v9] [] h hr n Q := by
  have r2 := R.2.1
  refine T_for (σ := Value × Value × Value) (fun j v => [.ref 704, .int (J d), .int (J l), .int (J fr), .int (J i), .int (J k0), .int (J j), v.1, v.2.1, v.2.2]) (fun j v h' => Ef (fun a k => (a = 724 ∨ a = 725) ∧ 10 * i.toNat ≤ k ∧ k < 10 * i.toNat + 10) h h' ∧ ∀ q, 0 ≤ q → q < j → gA h' 724 (10 * i + q) = J (kpt (s.2.2.1 q + off i q 0) 47) ∧ gA h' 725 (10 * i + q) = J (kpt (s.2.2.2 q + off i q 1) 31)) 0 s.2.1 ?_ ?_ 0 (v7, v8, v9) h (by omega) (by omega) ⟨Ef.refl, fun q _ _ => by omega⟩
  · rintro j ⟨v7, v8, v9⟩ h1 j0 j1 ⟨e1, c1⟩ ih
    dsimp only
    have W1 := W.ef e1 (fun a k q q' => by omega)
    have C1 := C.ef (by omega) r2.2 e1 (fun q => by omega) (fun q => by omega) (fun i _ _ => ⟨fun q => by omega, fun q => by omega⟩)
    have d1 := C1.1.2
    have d2 := C1.2 j j0 j1
    have ro := W1.r i j 0
    have ro1 := W1.r i j 1
    have b := R.2.2 j
    have go : ∀ v9, Tm E 251 (a_bl 251 5) [.ref 704, .int (J d), .int (J l), .int (J fr), .int (J i), .int (J k0), .int (J j), .int (J (off i j 0)), .int (J (off i j 1)), v9] [] h1 hr n Q := fun v9 => by
      have d3 : ∀ v, gA (sA h1 724 (10 * i + j) v) 712 (10 * k0 + j) = J (s.2.2.2 j) := fun v => by rw [gs_o (by decide)]; exact d2.2
      rw [k251_5]
      simp +decide (maxSteps := 4000000) (disch := omega) only [k251_0, k251_2, k251_5, k251_6, k251_9, k251_10, k251_11, k251_r, k251_s, T_I, F_is4i, F_is4r, F_is4m, T_ft, F_il4, T_icge, F_al0, T_getR, T_iast, F_inc4i, F_inc4r, F_inc4m, T_goto, F_il1, X_iald, T_mul, T_add, F_is5i, F_is5r, F_is5m, F_is6i, F_is6r, F_is6m, F_il6, F_il5, F_is7i, F_is7r, F_is7m, F_is8i, F_is8r, F_is8m, F_il2, J_iflt, J_ifle, F_is9i, F_is9r, F_is9m, F_il3, T_div, T_ushr, F_il9, T_rem, T_sub, F_il7, F_il8, F_inc6i, F_inc6r, F_inc6m, T_icgt, T_getI, F_inc8i, F_inc8r, F_inc8m, T_ret, c239, c242, c252, c253, ↓s239, ↓s242, ↓s252, ↓s253, FM F, ln_711, ln_712, ln_724, ln_725, d2.1, d3, TK, lt_run hn, le43, Int.le_refl, Int.lt_irrefl, Option.some.injEq, exists_eq_left', true_and, and_true, if_true, if_false, decide_eq_false_iff_not, decide_eq_true_eq, Nat.reduceAdd, Nat.reduceLeDiff, Nat.reduceLT, Int.reduceAdd, Int.reduceSub, Int.reduceMul, Int.reduceNeg, not_true_eq_false, not_false_eq_true]
      refine ih (_, _, _) _ ⟨(e1.sA (by omega)).sA (by omega), fun q q0 q1 => ?_⟩
      rw [gs_o (by decide)]
      by_cases g : q = j
      · rw [g, gs_s, gs_s]
        exact ⟨rfl, rfl⟩
      · rw [gs_k (by omega) (by omega) (by omega), gs_k (by omega) (by omega) (by omega), gs_o (by decide)]
        exact c1 q q0 (by omega)
    rcases W1 with W1 | ⟨w1, w2, T, V, M, ⟨w3, w4, w5⟩, w6, w7, w8⟩
    · have go2 := go v9
      rw [W1.2, W1.2] at go2
      rw [k251_4]
      simp +decide (maxSteps := 4000000) (disch := omega) only [k251_0, k251_2, k251_6, k251_9, k251_10, k251_11, k251_r, k251_s, T_I, F_is4i, F_is4r, F_is4m, T_ft, F_il4, T_icge, F_al0, T_getR, T_iast, F_inc4i, F_inc4r, F_inc4m, T_goto, F_il1, X_iald, T_mul, T_add, F_is5i, F_is5r, F_is5m, F_is6i, F_is6r, F_is6m, F_il6, F_il5, F_is7i, F_is7r, F_is7m, F_is8i, F_is8r, F_is8m, F_il2, J_iflt, J_ifle, F_is9i, F_is9r, F_is9m, F_il3, T_div, T_ushr, F_il9, T_rem, T_sub, F_il7, F_il8, F_inc6i, F_inc6r, F_inc6m, T_icgt, T_getI, F_inc8i, F_inc8r, F_inc8m, T_ret, c239, c242, c252, c253, ↓s239, ↓s242, ↓s252, ↓s253, FM F, ln_710, d1, show ¬ s.2.1 ≤ j by omega, show l < 0 by omega, TK, lt_run hn, le43, Int.le_refl, Int.lt_irrefl, Option.some.injEq, exists_eq_left', true_and, and_true, if_true, if_false, decide_eq_false_iff_not, decide_eq_true_eq, Nat.reduceAdd, Nat.reduceLeDiff, Nat.reduceLT, Int.reduceAdd, Int.reduceSub, Int.reduceMul, Int.reduceNeg, not_true_eq_false, not_false_eq_true]
      exact go2
    · rcases w8 with w8 | w8
      · have go2 := go v9
        rw [w8.2, w8.2] at go2
        have w4' : gA h1 761 l = J 0 := by rw [w4, w8.1]
        rw [k251_4]
        simp +decide (maxSteps := 4000000) (disch := omega) only [k251_0, k251_2, k251_6, k251_9, k251_10, k251_11, k251_r, k251_s, T_I, F_is4i, F_is4r, F_is4m, T_ft, F_il4, T_icge, F_al0, T_getR, T_iast, F_inc4i, F_inc4r, F_inc4m, T_goto, F_il1, X_iald, T_mul, T_add, F_is5i, F_is5r, F_is5m, F_is6i, F_is6r, F_is6m, F_il6, F_il5, F_is7i, F_is7r, F_is7m, F_is8i, F_is8r, F_is8m, F_il2, J_iflt, J_ifle, F_is9i, F_is9r, F_is9m, F_il3, T_div, T_ushr, F_il9, T_rem, T_sub, F_il7, F_il8, F_inc6i, F_inc6r, F_inc6m, T_icgt, T_getI, F_inc8i, F_inc8r, F_inc8m, T_ret, c239, c242, c252, c253, ↓s239, ↓s242, ↓s252, ↓s253, FM F, ln_710, ln_761, d1, w4', show ¬ s.2.1 ≤ j by omega, show ¬ l < 0 by omega, TK, lt_run hn, le43, Int.le_refl, Int.lt_irrefl, Option.some.injEq, exists_eq_left', true_and, and_true, if_true, if_false, decide_eq_false_iff_not, decide_eq_true_eq, Nat.reduceAdd, Nat.reduceLeDiff, Nat.reduceLT, Int.reduceAdd, Int.reduceSub, Int.reduceMul, Int.reduceNeg, not_true_eq_false, not_false_eq_true]
        exact go2
      · have u0 := ush8_r (hsh T (J (fr / V)) (J i) (J j) (J 0))
        have u1 := ush8_r (hsh T (J (fr / V)) (J i) (J j) (J 1))
        have go2 := go (.int (J (2 * M + 1)))
        rw [w8.2, w8.2] at go2
        unfold wgl at go2
        rw [k251_4]
        simp +decide (maxSteps := 4000000) (disch := omega) only [k251_0, k251_2, k251_6, k251_9, k251_10, k251_11, k251_r, k251_s, T_I, F_is4i, F_is4r, F_is4m, T_ft, F_il4, T_icge, F_al0, T_getR, T_iast, F_inc4i, F_inc4r, F_inc4m, T_goto, F_il1, X_iald, T_mul, T_add, F_is5i, F_is5r, F_is5m, F_is6i, F_is6r, F_is6m, F_il6, F_il5, F_is7i, F_is7r, F_is7m, F_is8i, F_is8r, F_is8m, F_il2, J_iflt, J_ifle, F_is9i, F_is9r, F_is9m, F_il3, T_div, T_ushr, F_il9, T_rem, T_sub, F_il7, F_il8, F_inc6i, F_inc6r, F_inc6m, T_icgt, T_getI, F_inc8i, F_inc8r, F_inc8m, T_ret, c239, c242, c252, c253, ↓s239, ↓s242, ↓s252, ↓s253, FM F, ln_710, ln_761, ln_762, ln_763, d1, w3, w4, w5, ush8, J_remp, J_divp, show ¬ s.2.1 ≤ j by omega, show ¬ l < 0 by omega, show ¬ V ≤ 0 by omega, TK, lt_run hn, le43, Int.le_refl, Int.lt_irrefl, Option.some.injEq, exists_eq_left', true_and, and_true, if_true, if_false, decide_eq_false_iff_not, decide_eq_true_eq, Nat.reduceAdd, Nat.reduceLeDiff, Nat.reduceLT, Int.reduceAdd, Int.reduceSub, Int.reduceMul, Int.reduceNeg, not_true_eq_false, not_false_eq_true]
        exact ⟨J_n0 (by omega), J_n0 (by omega), J_n0 (by omega), J_n0 (by omega), go2⟩
  · rintro ⟨v7, v8, v9⟩ h1 ⟨e1, c1⟩
    dsimp only
    have C1 := C.ef (by omega) r2.2 e1 (fun q => by omega) (fun q => by omega) (fun i _ _ => ⟨fun q => by omega, fun q => by omega⟩)
    have d1 := C1.1.2
    rw [k251_4]
    simp +decide (maxSteps := 4000000) (disch := omega) only [k251_0, k251_2, k251_5, k251_9, k251_10, k251_11, k251_r, k251_s, T_I, F_is4i, F_is4r, F_is4m, T_ft, F_il4, T_icge, F_al0, T_getR, T_iast, F_inc4i, F_inc4r, F_inc4m, T_goto, F_il1, X_iald, T_mul, T_add, F_is5i, F_is5r, F_is5m, F_is6i, F_is6r, F_is6m, F_il6, F_il5, F_is7i, F_is7r, F_is7m, F_is8i, F_is8r, F_is8m, F_il2, J_iflt, J_ifle, F_is9i, F_is9r, F_is9m, F_il3, T_div, T_ushr, F_il9, T_rem, T_sub, F_il7, F_il8, F_inc6i, F_inc6r, F_inc6m, T_icgt, T_getI, F_inc8i, F_inc8r, F_inc8m, T_ret, c239, c242, c252, c253, ↓s239, ↓s242, ↓s252, ↓s253, FM F, ln_710, d1, TK, lt_run hn, le43, Int.le_refl, Int.lt_irrefl, Option.some.injEq, exists_eq_left', true_and, and_true, if_true, if_false, decide_eq_false_iff_not, decide_eq_true_eq, Nat.reduceAdd, Nat.reduceLeDiff, Nat.reduceLT, Int.reduceAdd, Int.reduceSub, Int.reduceMul, Int.reduceNeg, not_true_eq_false, not_false_eq_true]
    exact k h1 _ _ _ e1 c1
theorem lnq_c (ax ay bx bY k : Int) : 48 * lnp ay (bY - ay) (stp (bx - ax) (bY - ay)) k + lnp ax (bx - ax) (stp (bx - ax) (bY - ay)) k = lnq ax ay bx bY k := by unfold lnq; omega
theorem z251l (F : FH hr) (hn : 775 ≤ n) {d i k0 q c ax ay bx bY : Int} (hi : 0 ≤ i ∧ i < 8) (hk : 0 ≤ k0 ∧ k0 < 128) (hq : 0 ≤ q ∧ q < 79) (h1 : onP ax ay) (h2 : onP bx bY) (c0 : gA h 709 k0 = J c) (c1 : gA h 724 q = J ax ∧ gA h 725 q = J ay) (c2 : gA h 724 (q + 1) = J bx ∧ gA h 725 (q + 1) = J bY) (P : PA h 726 f) (v9 : Value)
    (k : ∀ h' v8, PA h' 726 (lin f c ax ay bx bY) → Ef (fun a k => a = 726 ∨ (a = 704 ∧ (k = 16 ∨ k = 17))) h h' → Tm E 251 (a_bl 251 9) [.ref 704, .int (J d), .int (J l), .int (J fr), .int (J i), .int (J k0), .int (J q), .int (J (stp (bx - ax) (bY - ay))), v8, v9] [] h' hr n Q) :
    Tm E 251 (a_bl 251 8) [.ref 704, .int (J d), .int (J l), .int (J fr), .int (J i), .int (J k0), .int (J q), .int (J (stp (bx - ax) (bY - ay))), .int (J 0), v9] [] h hr n Q := by
  obtain ⟨p1, p2⟩ := id h1
  obtain ⟨p3, p4⟩ := id h2
  have sr := stp_r (bx - ax) (bY - ay)
  have sm := stp_m (dx := bx - ax) (dy := bY - ay) (A := 47) (by omega) (by omega)
  refine T_for (σ := Unit) (fun m _ => [.ref 704, .int (J d), .int (J l), .int (J fr), .int (J i), .int (J k0), .int (J q), .int (J (stp (bx - ax) (bY - ay))), .int (J m), v9]) (fun m _ h' => Ef (fun a k => a = 726 ∨ (a = 704 ∧ (k = 16 ∨ k = 17))) h h' ∧ PA h' 726 (ldr f c ax ay bx bY m.toNat)) 0 (stp (bx - ax) (bY - ay) + 1) ?_ ?_ 0 () h (by omega) (by omega) ⟨Ef.refl, P⟩
  · rintro m _ h3 m0 m1 ⟨e3, P3⟩ ih
    have lo := ln_on h1 h2 (k := m) (by omega)
    have ls := ldr_s (f := f) (v := c) (ax := ax) (ay := ay) (bx := bx) (bY := bY) m0
    have lc := lnq_c ax ay bx bY m
    have g1 : gA h3 724 q = J ax ∧ gA h3 725 q = J ay := by
      rw [e3.g (by omega), e3.g (by omega)]
      exact c1
    have g2 : gA h3 724 (q + 1) = J bx ∧ gA h3 725 (q + 1) = J bY := by
      rw [e3.g (by omega), e3.g (by omega)]
      exact c2
    have q16 : ∀ (u v : Int32), hI (hI h3 704 16 u) 704 17 v 704 16 = u := fun u v => by rw [hI_k (by decide), hI_s]
    have g0 : ∀ (u v : Int32), gA (hI (hI h3 704 16 u) 704 17 v) 709 k0 = J c := fun u v => by rw [gA_o (by decide), gA_o (by decide), e3.g (by omega)]; exact c0
    rw [k251_8]
    simp +decide (maxSteps := 4000000) (disch := omega) only [k251_0, k251_2, k251_5, k251_6, k251_9, k251_10, k251_11, k251_r, k251_s, T_I, F_is4i, F_is4r, F_is4m, T_ft, F_il4, T_icge, F_al0, T_getR, T_iast, F_inc4i, F_inc4r, F_inc4m, T_goto, F_il1, X_iald, T_mul, T_add, F_is5i, F_is5r, F_is5m, F_is6i, F_is6r, F_is6m, F_il6, F_il5, F_is7i, F_is7r, F_is7m, F_is8i, F_is8r, F_is8m, F_il2, J_iflt, J_ifle, F_is9i, F_is9r, F_is9m, F_il3, T_div, T_ushr, F_il9, T_rem, T_sub, F_il7, F_il8, F_inc6i, F_inc6r, F_inc6m, T_icgt, T_getI, F_inc8i, F_inc8r, F_inc8m, T_ret, c239, c242, c252, c253, ↓s239, ↓s252, ↓s253, FM F, ln_709, ln_724, ln_725, ln_726, g0, g1, g2, q16, hI_s, ↓s242 hn, lc, kd_704, show ¬ stp (bx - ax) (bY - ay) < m by omega, TK, lt_run hn, le43, Int.le_refl, Int.lt_irrefl, Option.some.injEq, exists_eq_left', true_and, and_true, if_true, if_false, decide_eq_false_iff_not, decide_eq_true_eq, Nat.reduceAdd, Nat.reduceLeDiff, Nat.reduceLT, Int.reduceAdd, Int.reduceSub, Int.reduceMul, Int.reduceNeg, not_true_eq_false, not_false_eq_true]
    refine ih () _ ⟨((e3.hI (Or.inr ⟨rfl, Or.inl rfl⟩)).hI (Or.inr ⟨rfl, Or.inr rfl⟩)).sA (Or.inl rfl), ?_⟩
    rw [ls]
    have P4 : PA (hI (hI h3 704 16 (J (lnp ax (bx - ax) (stp (bx - ax) (bY - ay)) m))) 704 17 (J (lnp ay (bY - ay) (stp (bx - ax) (bY - ay)) m))) 726 (ldr f c ax ay bx bY m.toNat) := P3.ef (S := fun a k => a = 704) (Ef.hI (Ef.hI Ef.refl rfl) rfl) (fun k => by decide)
    exact P4.set (by omega)
  · rintro _ h3 ⟨e3, P3⟩
    rw [k251_8]
    simp +decide (maxSteps := 4000000) (disch := omega) only [k251_0, k251_2, k251_5, k251_6, k251_10, k251_11, k251_r, k251_s, T_I, F_is4i, F_is4r, F_is4m, T_ft, F_il4, T_icge, F_al0, T_getR, T_iast, F_inc4i, F_inc4r, F_inc4m, T_goto, F_il1, X_iald, T_mul, T_add, F_is5i, F_is5r, F_is5m, F_is6i, F_is6r, F_is6m, F_il6, F_il5, F_is7i, F_is7r, F_is7m, F_is8i, F_is8r, F_is8m, F_il2, J_iflt, J_ifle, F_is9i, F_is9r, F_is9m, F_il3, T_div, T_ushr, F_il9, T_rem, T_sub, F_il7, F_il8, F_inc6i, F_inc6r, F_inc6m, T_icgt, T_getI, F_inc8i, F_inc8r, F_inc8m, T_ret, c239, c242, c252, c253, ↓s239, ↓s242, ↓s252, ↓s253, show stp (bx - ax) (bY - ay) < stp (bx - ax) (bY - ay) + 1 by omega, TK, lt_run hn, le43, Int.le_refl, Int.lt_irrefl, Option.some.injEq, exists_eq_left', true_and, and_true, if_true, if_false, decide_eq_false_iff_not, decide_eq_true_eq, Nat.reduceAdd, Nat.reduceLeDiff, Nat.reduceLT, Int.reduceAdd, Int.reduceSub, Int.reduceMul, Int.reduceNeg, not_true_eq_false, not_false_eq_true]
    exact k h3 _ P3 e3
end DR
