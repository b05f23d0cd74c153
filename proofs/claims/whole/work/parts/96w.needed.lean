/-! pictures: what is needed; the class's picture of a node -/
section NE
variable {E : AEn} {h h' : AHi} {hr : AHr} {n : Nat} {Q : ARs → Prop} {e : PEn} {f i : Int}
/-- what is needed, in its row -/
def NdR (h : AHi) (N : Int → Bool) : Prop := ∀ j, 0 ≤ j → j < 10 → gA h 138 j = Bz (N j)
theorem NdR.set {N : Int → Bool} (C : NdR h N) {p : Int} (hp : 0 ≤ p) : NdR (sA h 138 p (J 1)) (setB N p) := fun j j0 j1 => by
  by_cases z : j = p
  · rw [z, gs_s, setB_s]
    rfl
  · rw [gs_k hp j0 z, setB_o z]
    exact C j j0 j1
theorem w93 (F : FH hr) (hn : 775 ≤ n) (W : PW h hr e) {nd : Int} (hd : 0 ≤ nd ∧ nd < e.m)
    (k : ∀ (h' : AHi) (N : Int → Bool), Ef (fun x _ => x = 138) h h' → NdR h' N → N nd = true → (∀ i, 0 ≤ i → i ≤ nd → N i = true → ∀ q, 0 ≤ q → q < nnd (e.K i) → N (e.T i q) = true) → Q (none, h', hr, n)) : Sp E 93 [.ref 113, .int (J nd)] h hr n Q := by
  obtain ⟨_, _, _, _, _, _, _, n1, n2, n3, n4, n5, n6⟩ := id W
  simp +decide (maxSteps := 4000000) (disch := omega) only [k93_0, k93_2, k93_3, k93_4, k93_7, k93_8, k93_r, k93_s, T_I, F_is2i, F_is2r, F_is2m, T_ft, F_il2, T_icge, F_al0, T_getR, F_il1, J_icne, T_goto, T_bast, F_inc2i, F_inc2r, F_inc2m, J_iflt, F_is3i, F_is3r, F_is3m, F_il3, X_aald, T_getI, X_bald, J_ifeq, X_iald, F_inc3i, F_inc3r, F_inc3m, T_ret, ↓reduceIte, TK, lt_run hn, le43, Int.le_refl, Int.lt_irrefl, Option.some.injEq, exists_eq_left', true_and, and_true, if_true, if_false, decide_eq_false_iff_not, decide_eq_true_eq, Nat.reduceAdd, Nat.reduceLeDiff, Nat.reduceLT, Int.reduceAdd, Int.reduceSub, Int.reduceMul, Int.reduceNeg, not_true_eq_false, not_false_eq_true]
  refine T_for (σ := Value) (fun i v => [.ref 113, .int (J nd), .int (J i), v]) (fun i _ h' => Ef (fun x _ => x = 138) h h' ∧ ∀ j, 0 ≤ j → j < i → gA h' 138 j = Bz (decide (j = nd))) 0 10 ?_ ?_ 0 a_mk h (by omega) (by omega) ⟨Ef.refl, fun j _ _ => by omega⟩
  · rintro i v h1 i0 i1 ⟨e1, c1⟩ ih
    by_cases g : i = nd
    · rw [k93_1]
      simp +decide (maxSteps := 4000000) (disch := omega) only [k93_0, k93_2, k93_3, k93_4, k93_7, k93_8, k93_r, k93_s, T_I, F_is2i, F_is2r, F_is2m, T_ft, F_il2, T_icge, F_al0, T_getR, F_il1, J_icne, T_goto, T_bast, F_inc2i, F_inc2r, F_inc2m, J_iflt, F_is3i, F_is3r, F_is3m, F_il3, X_aald, T_getI, X_bald, J_ifeq, X_iald, F_inc3i, F_inc3r, F_inc3m, T_ret, FX F, eq_true g, ln_138, kd_138, bool_1, show ¬ 10 ≤ i by omega, ↓reduceIte, TK, lt_run hn, le43, Int.le_refl, Int.lt_irrefl, Option.some.injEq, exists_eq_left', true_and, and_true, if_true, if_false, decide_eq_false_iff_not, decide_eq_true_eq, Nat.reduceAdd, Nat.reduceLeDiff, Nat.reduceLT, Int.reduceAdd, Int.reduceSub, Int.reduceMul, Int.reduceNeg, not_true_eq_false, not_false_eq_true]
      refine ih _ _ ⟨e1.sA rfl, fun j j0 j1 => ?_⟩
      by_cases z : j = i
      · rw [z, gs_s, decide_eq_true g]
        rfl
      · rw [gs_k i0 j0 z]
        exact c1 j j0 (by omega)
    · rw [k93_1]
      simp +decide (maxSteps := 4000000) (disch := omega) only [k93_0, k93_2, k93_3, k93_4, k93_7, k93_8, k93_r, k93_s, T_I, F_is2i, F_is2r, F_is2m, T_ft, F_il2, T_icge, F_al0, T_getR, F_il1, J_icne, T_goto, T_bast, F_inc2i, F_inc2r, F_inc2m, J_iflt, F_is3i, F_is3r, F_is3m, F_il3, X_aald, T_getI, X_bald, J_ifeq, X_iald, F_inc3i, F_inc3r, F_inc3m, T_ret, FX F, g, ln_138, kd_138, bool_0, show ¬ 10 ≤ i by omega, ↓reduceIte, TK, lt_run hn, le43, Int.le_refl, Int.lt_irrefl, Option.some.injEq, exists_eq_left', true_and, and_true, if_true, if_false, decide_eq_false_iff_not, decide_eq_true_eq, Nat.reduceAdd, Nat.reduceLeDiff, Nat.reduceLT, Int.reduceAdd, Int.reduceSub, Int.reduceMul, Int.reduceNeg, not_true_eq_false, not_false_eq_true]
      refine ih _ _ ⟨e1.sA rfl, fun j j0 j1 => ?_⟩
      by_cases z : j = i
      · rw [z, gs_s, decide_eq_false g]
        rfl
      · rw [gs_k i0 j0 z]
        exact c1 j j0 (by omega)
  rintro v h1 ⟨e1, c1⟩
  rw [k93_1]
  simp +decide (maxSteps := 4000000) (disch := omega) only [k93_0, k93_2, k93_3, k93_4, k93_7, k93_8, k93_r, k93_s, T_I, F_is2i, F_is2r, F_is2m, T_ft, F_il2, T_icge, F_al0, T_getR, F_il1, J_icne, T_goto, T_bast, F_inc2i, F_inc2r, F_inc2m, J_iflt, F_is3i, F_is3r, F_is3m, F_il3, X_aald, T_getI, X_bald, J_ifeq, X_iald, F_inc3i, F_inc3r, F_inc3m, T_ret, ↓reduceIte, TK, lt_run hn, le43, Int.le_refl, Int.lt_irrefl, Option.some.injEq, exists_eq_left', true_and, and_true, if_true, if_false, decide_eq_false_iff_not, decide_eq_true_eq, Nat.reduceAdd, Nat.reduceLeDiff, Nat.reduceLT, Int.reduceAdd, Int.reduceSub, Int.reduceMul, Int.reduceNeg, not_true_eq_false, not_false_eq_true]
  refine T_down (σ := Value) (fun i v => [.ref 113, .int (J nd), .int (J i), v]) (fun i _ h' => Ef (fun x _ => x = 138) h h' ∧ ∃ N : Int → Bool, NdR h' N ∧ N nd = true ∧ ∀ j, i < j → j ≤ nd → N j = true → ∀ q, 0 ≤ q → q < nnd (e.K j) → N (e.T j q) = true) (-1) nd ?_ ?_ nd v h1 (by omega) (by omega) ⟨e1, fun j => decide (j = nd), c1, decide_eq_true rfl, fun j j0 j1 => by omega⟩
  · rintro i v h1 i0 i1 ⟨e1, N, c1, c2, c3⟩ ih
    obtain ⟨o1, _, t1⟩ := n6 i (by omega) (by omega)
    have kr := n2 i
    obtain ⟨⟨v1, v2, v3⟩, _⟩ := kn_i (E := E) (h := h1) kr
    have y1 : 4 + (e.K i).toNat < n := by omega
    have nr := nnd_r (e.K i)
    have x2 := X115 E F (show 0 ≤ i by omega) (show i < 11 by omega)
    rw [k93_5]
    simp +decide (maxSteps := 4000000) (disch := omega) only [k93_0, k93_2, k93_3, k93_4, k93_7, k93_8, k93_r, k93_s, T_I, F_is2i, F_is2r, F_is2m, T_ft, F_il2, T_icge, F_al0, T_getR, F_il1, J_icne, T_goto, T_bast, F_inc2i, F_inc2r, F_inc2m, J_iflt, F_is3i, F_is3r, F_is3m, F_il3, X_aald, T_getI, X_bald, J_ifeq, X_iald, F_inc3i, F_inc3r, F_inc3m, T_ret, show ¬ i < 0 by omega, show 0 ≤ i by omega, ↓reduceIte, TK, lt_run hn, le43, Int.le_refl, Int.lt_irrefl, Option.some.injEq, exists_eq_left', true_and, and_true, if_true, if_false, decide_eq_false_iff_not, decide_eq_true_eq, Nat.reduceAdd, Nat.reduceLeDiff, Nat.reduceLT, Int.reduceAdd, Int.reduceSub, Int.reduceMul, Int.reduceNeg, not_true_eq_false, not_false_eq_true]
    cases hN : N i with
    | false =>
      have d1 := c1 i (by omega) (by omega)
      rw [hN] at d1
      have fin : Tm E 93 (a_bl 93 5) [.ref 113, .int (J nd), .int (J (i - 1)), .int (J 0)] [] h1 hr n Q := ih _ _ ⟨e1, N, c1, c2, fun j j0 j1 j2 => by
        by_cases z : j = i
        · rw [z, hN] at j2
          cases j2
        · exact c3 j (by omega) j1 j2⟩
      by_cases g0 : nnd (e.K i) ≤ 0
      · rw [k93_6]
        simp +decide (maxSteps := 4000000) (disch := omega) only [k93_0, k93_2, k93_3, k93_4, k93_7, k93_8, k93_r, k93_s, T_I, F_is2i, F_is2r, F_is2m, T_ft, F_il2, T_icge, F_al0, T_getR, F_il1, J_icne, T_goto, T_bast, F_inc2i, F_inc2r, F_inc2m, J_iflt, F_is3i, F_is3r, F_is3m, F_il3, X_aald, T_getI, X_bald, J_ifeq, X_iald, F_inc3i, F_inc3r, F_inc3m, T_ret, FX F, o1, v1, v2, y1, d1, Bz_f, g0, kd_114, ln_114, kd_138, ln_138, ↓reduceIte, TK, lt_run hn, le43, Int.le_refl, Int.lt_irrefl, Option.some.injEq, exists_eq_left', true_and, and_true, if_true, if_false, decide_eq_false_iff_not, decide_eq_true_eq, Nat.reduceAdd, Nat.reduceLeDiff, Nat.reduceLT, Int.reduceAdd, Int.reduceSub, Int.reduceMul, Int.reduceNeg, not_true_eq_false, not_false_eq_true]
        exact fin
      · rw [k93_6]
        simp +decide (maxSteps := 4000000) (disch := omega) only [k93_0, k93_2, k93_3, k93_4, k93_7, k93_8, k93_r, k93_s, T_I, F_is2i, F_is2r, F_is2m, T_ft, F_il2, T_icge, F_al0, T_getR, F_il1, J_icne, T_goto, T_bast, F_inc2i, F_inc2r, F_inc2m, J_iflt, F_is3i, F_is3r, F_is3m, F_il3, X_aald, T_getI, X_bald, J_ifeq, X_iald, F_inc3i, F_inc3r, F_inc3m, T_ret, FX F, o1, v1, v2, y1, d1, Bz_f, g0, kd_114, ln_114, kd_138, ln_138, ↓reduceIte, TK, lt_run hn, le43, Int.le_refl, Int.lt_irrefl, Option.some.injEq, exists_eq_left', true_and, and_true, if_true, if_false, decide_eq_false_iff_not, decide_eq_true_eq, Nat.reduceAdd, Nat.reduceLeDiff, Nat.reduceLT, Int.reduceAdd, Int.reduceSub, Int.reduceMul, Int.reduceNeg, not_true_eq_false, not_false_eq_true]
        exact fin
    | true =>
      refine T_for (σ := Unit) (fun q _ => [.ref 113, .int (J nd), .int (J i), .int (J q)]) (fun q _ h' => Ef (fun x _ => x = 138) h h' ∧ ∃ N' : Int → Bool, NdR h' N' ∧ (∀ j, N j = true → N' j = true) ∧ (∀ j, i ≤ j → N' j = N j) ∧ ∀ q', 0 ≤ q' → q' < q → N' (e.T i q') = true) 0 (nnd (e.K i)) ?_ ?_ 0 () h1 (by omega) (by omega) ⟨e1, N, c1, fun j q => q, fun j _ => rfl, fun q' _ _ => by omega⟩
      · rintro q _ h2 q0 q1 ⟨e2, N', b1, b2, b3, b4⟩ ihq
        have d1 := b1 i (by omega) (by omega)
        rw [b3 i (Int.le_refl _), hN] at d1
        have t2 : gA h2 (116 + i.toNat) q = J (e.T i q) := (e2.g (by omega)).trans (t1 q q0 (by have := nnd_nar (e.K i); omega)).1
        have t3 := NA_n (n3 i (by omega) (by omega)) q0 q1
        obtain ⟨⟨v1', v2', _⟩, _⟩ := kn_i (E := E) (h := h2) kr
        rw [k93_6]
        simp +decide (maxSteps := 4000000) (disch := omega) only [k93_0, k93_2, k93_3, k93_4, k93_7, k93_8, k93_r, k93_s, T_I, F_is2i, F_is2r, F_is2m, T_ft, F_il2, T_icge, F_al0, T_getR, F_il1, J_icne, T_goto, T_bast, F_inc2i, F_inc2r, F_inc2m, J_iflt, F_is3i, F_is3r, F_is3m, F_il3, X_aald, T_getI, X_bald, J_ifeq, X_iald, F_inc3i, F_inc3r, F_inc3m, T_ret, FX F, o1, v1, v2', y1, d1, Bz_t, x2, t2, bool_1, kd_114, ln_114, kd_138, ln_138, kd_115, ln_115, show ¬ nnd (e.K i) ≤ q by omega, ↓reduceIte, TK, lt_run hn, le43, Int.le_refl, Int.lt_irrefl, Option.some.injEq, exists_eq_left', true_and, and_true, if_true, if_false, decide_eq_false_iff_not, decide_eq_true_eq, Nat.reduceAdd, Nat.reduceLeDiff, Nat.reduceLT, Int.reduceAdd, Int.reduceSub, Int.reduceMul, Int.reduceNeg, not_true_eq_false, not_false_eq_true]
        refine ihq () _ ⟨e2.sA rfl, setB N' (e.T i q), b1.set t3.1, fun j hj => setB_m (b2 j hj), fun j hj => ?_, fun q' p0 p1 => ?_⟩
        · rw [setB_o (by omega)]
          exact b3 j hj
        · by_cases z : q' = q
          · rw [z]
            exact setB_s _ _
          · exact setB_m (b4 q' p0 (by omega))
      · rintro _ h2 ⟨e2, N', b1, b2, b3, b4⟩
        obtain ⟨⟨v1', v2', _⟩, _⟩ := kn_i (E := E) (h := h2) kr
        rw [k93_6]
        simp +decide (maxSteps := 4000000) (disch := omega) only [k93_0, k93_2, k93_3, k93_4, k93_7, k93_8, k93_r, k93_s, T_I, F_is2i, F_is2r, F_is2m, T_ft, F_il2, T_icge, F_al0, T_getR, F_il1, J_icne, T_goto, T_bast, F_inc2i, F_inc2r, F_inc2m, J_iflt, F_is3i, F_is3r, F_is3m, F_il3, X_aald, T_getI, X_bald, J_ifeq, X_iald, F_inc3i, F_inc3r, F_inc3m, T_ret, FX F, o1, v1, v2', y1, kd_114, ln_114, ↓reduceIte, TK, lt_run hn, le43, Int.le_refl, Int.lt_irrefl, Option.some.injEq, exists_eq_left', true_and, and_true, if_true, if_false, decide_eq_false_iff_not, decide_eq_true_eq, Nat.reduceAdd, Nat.reduceLeDiff, Nat.reduceLT, Int.reduceAdd, Int.reduceSub, Int.reduceMul, Int.reduceNeg, not_true_eq_false, not_false_eq_true]
        refine ih _ _ ⟨e2, N', b1, b2 _ c2, fun j j0 j1 j2 q q0 q1 => ?_⟩
        by_cases z : j = i
        · rw [z] at q1 ⊢
          exact b4 q q0 q1
        · rw [b3 j (by omega)] at j2
          exact b2 _ (c3 j (by omega) j1 j2 q q0 q1)
  · rintro v h1 ⟨e1, N, c1, c2, c3⟩
    rw [k93_5]
    simp +decide (maxSteps := 4000000) (disch := omega) only [k93_0, k93_2, k93_3, k93_4, k93_7, k93_8, k93_r, k93_s, T_I, F_is2i, F_is2r, F_is2m, T_ft, F_il2, T_icge, F_al0, T_getR, F_il1, J_icne, T_goto, T_bast, F_inc2i, F_inc2r, F_inc2m, J_iflt, F_is3i, F_is3r, F_is3m, F_il3, X_aald, T_getI, X_bald, J_ifeq, X_iald, F_inc3i, F_inc3r, F_inc3m, T_ret, ↓reduceIte, TK, lt_run hn, le43, Int.le_refl, Int.lt_irrefl, Option.some.injEq, exists_eq_left', true_and, and_true, if_true, if_false, decide_eq_false_iff_not, decide_eq_true_eq, Nat.reduceAdd, Nat.reduceLeDiff, Nat.reduceLT, Int.reduceAdd, Int.reduceSub, Int.reduceMul, Int.reduceNeg, not_true_eq_false, not_false_eq_true]
    exact k h1 N e1 c1 c2 (fun i i0 i1 hN q q0 q1 => c3 i (by omega) i1 hN q q0 q1)
/-- what making a picture changes in the class -/
def Sps (x _k : Nat) : Prop := (128 ≤ x ∧ x ≤ 140) ∨ (49 ≤ x ∧ x ≤ 84)
theorem Sps_0 {x k : Nat} (q : Sps x k) : sys x k = 0 := by
  unfold Sps at q
  rcases q with q | q
  · exact sys128 (by omega) (by omega)
  · exact sys_0 (by omega) (by omega)
theorem w197 (F : FH hr) (hn : 775 ≤ n) (W : PW h hr e) {nd : Int} (hd : 0 ≤ nd ∧ nd < e.m) (hf : 0 ≤ f ∧ f ≤ 119)
    (k : ∀ h', Ef Sps h h' → PA h' (128 + nd.toNat) (PN e f nd) → Q (some (.ref (128 + nd.toNat)), h', hr, n)) : Sp E 197 [.ref 43, .int (J nd), .int (J f)] h hr n Q := by
  have wz : ∀ {h1}, Ef Sps h h1 → PW h1 hr e := fun w => W.z (w.mono fun x k q => Or.inl (Sps_0 q))
  obtain ⟨_, _, _, _, _, _, _, n1, n2, n3, n4, n5, n6⟩ := id W
  have x1 := X127 E F hd.1 (show nd < 10 by omega)
  simp +decide (maxSteps := 4000000) (disch := omega) only [k197_0, k197_2, k197_3, k197_4, k197_r, k197_s, F_al0, T_getR, F_il1, T_I, F_is3i, F_is3r, F_is3m, T_ft, F_il3, T_icgt, X_bald, J_ifeq, X_aald, T_cR, T_an, F_il2, T_goto, F_inc3i, F_inc3r, F_inc3m, T_ret, c93, c95, c198, FX F, ↓reduceIte, TK, lt_run hn, le43, Int.le_refl, Int.lt_irrefl, Option.some.injEq, exists_eq_left', true_and, and_true, if_true, if_false, decide_eq_false_iff_not, decide_eq_true_eq, Nat.reduceAdd, Nat.reduceLeDiff, Nat.reduceLT, Int.reduceAdd, Int.reduceSub, Int.reduceMul, Int.reduceNeg, not_true_eq_false, not_false_eq_true]
  refine w93 F hn W hd (fun h1 N e1 c1 c2 c3 => ?_)
  simp +decide (maxSteps := 4000000) (disch := omega) only [k197_0, k197_2, k197_3, k197_4, k197_r, k197_s, F_al0, T_getR, F_il1, T_I, F_is3i, F_is3r, F_is3m, T_ft, F_il3, T_icgt, X_bald, J_ifeq, X_aald, T_cR, T_an, F_il2, T_goto, F_inc3i, F_inc3r, F_inc3m, T_ret, c93, c95, c198, ↓reduceIte, TK, lt_run hn, le43, Int.le_refl, Int.lt_irrefl, Option.some.injEq, exists_eq_left', true_and, and_true, if_true, if_false, decide_eq_false_iff_not, decide_eq_true_eq, Nat.reduceAdd, Nat.reduceLeDiff, Nat.reduceLT, Int.reduceAdd, Int.reduceSub, Int.reduceMul, Int.reduceNeg, not_true_eq_false, not_false_eq_true]
  refine T_for (σ := Unit) (fun i _ => [.ref 43, .int (J nd), .int (J f), .int (J i)]) (fun i _ h' => Ef Sps h h' ∧ NdR h' N ∧ ∀ j, 0 ≤ j → j < i → N j = true → PA h' (128 + j.toNat) (PN e f j)) 0 (nd + 1) ?_ ?_ 0 () h1 (by omega) (by omega) ⟨e1.mono fun x k q => Or.inl (by omega), c1, fun j _ _ => by omega⟩
  · rintro i _ h2 i0 i1 ⟨e2, b1, b2⟩ ih
    have W2 := wz e2
    have d1 := b1 i i0 (by omega)
    obtain ⟨o1, _, _⟩ := n6 i i0 (by omega)
    have kr := n2 i
    have v1 := (kn_i (E := E) (h := h2) kr).1.1
    have y1 : 4 + (e.K i).toNat < n := by omega
    have kd5 : a_kd 5 = 12 := rfl
    cases hN : N i with
    | false =>
      rw [hN] at d1
      rw [k197_1]
      simp +decide (maxSteps := 4000000) (disch := omega) only [k197_0, k197_2, k197_3, k197_4, k197_r, k197_s, F_al0, T_getR, F_il1, T_I, F_is3i, F_is3r, F_is3m, T_ft, F_il3, T_icgt, X_bald, J_ifeq, X_aald, T_cR, T_an, F_il2, T_goto, F_inc3i, F_inc3r, F_inc3m, T_ret, c93, c95, c198, FX F, d1, Bz_f, kd_138, ln_138, show ¬ nd < i by omega, ↓reduceIte, TK, lt_run hn, le43, Int.le_refl, Int.lt_irrefl, Option.some.injEq, exists_eq_left', true_and, and_true, if_true, if_false, decide_eq_false_iff_not, decide_eq_true_eq, Nat.reduceAdd, Nat.reduceLeDiff, Nat.reduceLT, Int.reduceAdd, Int.reduceSub, Int.reduceMul, Int.reduceNeg, not_true_eq_false, not_false_eq_true]
      refine ih () _ ⟨e2, b1, fun j j0 j1 j2 => b2 j j0 ?_ j2⟩
      by_cases z : j = i
      · rw [z, hN] at j2
        cases j2
      · omega
    | true =>
      rw [hN] at d1
      by_cases g : e.K i = 1
      · have y2 : (e.K i).toNat = 1 := by omega
        rw [y2] at o1
        rw [k197_1]
        simp +decide (maxSteps := 4000000) (disch := omega) only [k197_0, k197_2, k197_3, k197_4, k197_r, k197_s, F_al0, T_getR, F_il1, T_I, F_is3i, F_is3r, F_is3m, T_ft, F_il3, T_icgt, X_bald, J_ifeq, X_aald, T_cR, T_an, F_il2, T_goto, F_inc3i, F_inc3r, F_inc3m, T_ret, c93, c95, c198, FX F, d1, Bz_t, o1, kd5, kd_114, ln_114, kd_138, ln_138, show ¬ nd < i by omega, ↓reduceIte, TK, lt_run hn, le43, Int.le_refl, Int.lt_irrefl, Option.some.injEq, exists_eq_left', true_and, and_true, if_true, if_false, decide_eq_false_iff_not, decide_eq_true_eq, Nat.reduceAdd, Nat.reduceLeDiff, Nat.reduceLT, Int.reduceAdd, Int.reduceSub, Int.reduceMul, Int.reduceNeg, not_true_eq_false, not_false_eq_true]
        refine w198 F hn W2 ⟨i0, by omega⟩ g hf (fun h3 e3 q3 => ?_)
        simp +decide (maxSteps := 4000000) (disch := omega) only [k197_0, k197_2, k197_3, k197_4, k197_r, k197_s, F_al0, T_getR, F_il1, T_I, F_is3i, F_is3r, F_is3m, T_ft, F_il3, T_icgt, X_bald, J_ifeq, X_aald, T_cR, T_an, F_il2, T_goto, F_inc3i, F_inc3r, F_inc3m, T_ret, c93, c95, c198, ↓reduceIte, TK, lt_run hn, le43, Int.le_refl, Int.lt_irrefl, Option.some.injEq, exists_eq_left', true_and, and_true, if_true, if_false, decide_eq_false_iff_not, decide_eq_true_eq, Nat.reduceAdd, Nat.reduceLeDiff, Nat.reduceLT, Int.reduceAdd, Int.reduceSub, Int.reduceMul, Int.reduceNeg, not_true_eq_false, not_false_eq_true]
        have e3' : Ef Sps h2 h3 := e3.mono fun x k q => by unfold Sly at q; unfold Sps; omega
        refine ih () _ ⟨e2.trans e3', fun j j0 j1 => (e3.g (fun q => by unfold Sly at q; omega)).trans (b1 j j0 j1), fun j j0 j1 j2 => ?_⟩
        by_cases z : j = i
        · rw [z, PN_s W2 f i0 (by omega), g, wrk_1]
          exact q3
        · exact (b2 j j0 (by omega) j2).ef e3 (fun k q => by unfold Sly at q; omega)
      · have y2 : ¬ 4 + (e.K i).toNat = 5 := by omega
        rw [k197_1]
        simp +decide (maxSteps := 4000000) (disch := omega) only [k197_0, k197_2, k197_3, k197_4, k197_r, k197_s, F_al0, T_getR, F_il1, T_I, F_is3i, F_is3r, F_is3m, T_ft, F_il3, T_icgt, X_bald, J_ifeq, X_aald, T_cR, T_an, F_il2, T_goto, F_inc3i, F_inc3r, F_inc3m, T_ret, c93, c95, c198, FX F, d1, Bz_t, o1, v1, y1, y2, kd5, kd_114, ln_114, kd_138, ln_138, show ¬ nd < i by omega, ↓reduceIte, TK, lt_run hn, le43, Int.le_refl, Int.lt_irrefl, Option.some.injEq, exists_eq_left', true_and, and_true, if_true, if_false, decide_eq_false_iff_not, decide_eq_true_eq, Nat.reduceAdd, Nat.reduceLeDiff, Nat.reduceLT, Int.reduceAdd, Int.reduceSub, Int.reduceMul, Int.reduceNeg, not_true_eq_false, not_false_eq_true]
        refine ⟨Or.inr ⟨by omega, by omega⟩, w95 F hn W2 ⟨i0, by omega⟩ g hf (fun q q0 q1 => ?_) (fun h3 e3 q3 => ?_)⟩
        · have t := NA_n (n3 i i0 (by omega)) q0 q1
          exact b2 _ t.1 t.2 (c3 i i0 (by omega) hN q q0 q1)
        simp +decide (maxSteps := 4000000) (disch := omega) only [k197_0, k197_2, k197_3, k197_4, k197_r, k197_s, F_al0, T_getR, F_il1, T_I, F_is3i, F_is3r, F_is3m, T_ft, F_il3, T_icgt, X_bald, J_ifeq, X_aald, T_cR, T_an, F_il2, T_goto, F_inc3i, F_inc3r, F_inc3m, T_ret, c93, c95, c198, ↓reduceIte, TK, lt_run hn, le43, Int.le_refl, Int.lt_irrefl, Option.some.injEq, exists_eq_left', true_and, and_true, if_true, if_false, decide_eq_false_iff_not, decide_eq_true_eq, Nat.reduceAdd, Nat.reduceLeDiff, Nat.reduceLT, Int.reduceAdd, Int.reduceSub, Int.reduceMul, Int.reduceNeg, not_true_eq_false, not_false_eq_true]
        have e3' : Ef Sps h2 h3 := e3.mono fun x k q => by unfold Sps; omega
        refine ih () _ ⟨e2.trans e3', fun j j0 j1 => (e3.g (by omega)).trans (b1 j j0 j1), fun j j0 j1 j2 => ?_⟩
        by_cases z : j = i
        · rw [z]
          exact q3
        · exact (b2 j j0 (by omega) j2).ef e3 (fun k => by omega)
  · rintro _ h2 ⟨e2, b1, b2⟩
    rw [k197_1]
    simp +decide (maxSteps := 4000000) (disch := omega) only [k197_0, k197_2, k197_3, k197_4, k197_r, k197_s, F_al0, T_getR, F_il1, T_I, F_is3i, F_is3r, F_is3m, T_ft, F_il3, T_icgt, X_bald, J_ifeq, X_aald, T_cR, T_an, F_il2, T_goto, F_inc3i, F_inc3r, F_inc3m, T_ret, c93, c95, c198, FX F, x1, kd_127, ln_127, show nd < nd + 1 by omega, ↓reduceIte, TK, lt_run hn, le43, Int.le_refl, Int.lt_irrefl, Option.some.injEq, exists_eq_left', true_and, and_true, if_true, if_false, decide_eq_false_iff_not, decide_eq_true_eq, Nat.reduceAdd, Nat.reduceLeDiff, Nat.reduceLT, Int.reduceAdd, Int.reduceSub, Int.reduceMul, Int.reduceNeg, not_true_eq_false, not_false_eq_true]
    exact k h2 e2 (b2 nd hd.1 (by omega) c2)
end NE
