/-! KEYS: the class's, in order of their frames -/
/-- how many, frames, values -/
abbrev Kys : Type := Int × (Int → Int) × (Int → Int)
def Kb (E : AEn) (hr : AHr) (o : Nat) (cap : Nat) : Prop := (hr o 0 = some (o + 1) ∧ hr o 1 = some (o + 2)) ∧ (a_kd o = 4 ∧ a_kd (o + 1) = 20 ∧ a_kd (o + 2) = 20) ∧ (a_ln E (o + 1) = cap ∧ a_ln E (o + 2) = cap) ∧ (43 ≤ o ∧ o + 2 < 775) ∧ 6 ≤ cap ∧ cap ≤ 8
def KC (h : AHi) (o : Nat) (K : Kys) : Prop := h o 2 = J K.1 ∧ ∀ i, 0 ≤ i → i < K.1 → gA h (o + 1) i = J (K.2.1 i) ∧ gA h (o + 2) i = J (K.2.2 i)
def KR (cap : Nat) (lo hi : Int) (K : Kys) : Prop := (0 ≤ K.1 ∧ K.1 ≤ cap) ∧ (∀ i, 0 ≤ i → i < K.1 → (0 ≤ K.2.1 i ∧ K.2.1 i ≤ 119) ∧ lo ≤ K.2.2 i ∧ K.2.2 i ≤ hi) ∧ ∀ i j, 0 ≤ i → i < j → j < K.1 → K.2.1 i < K.2.1 j
def kaf (F : Int → Int) (f : Int) : Nat → Int → Int
  | 0, i => i
  | q + 1, i => if F i < f then kaf F f q (i + 1) else i
/-- how many lie ahead -/
def kah (K : Kys) (f : Int) : Int := kaf K.2.1 f K.1.toNat 0
theorem kaf_r {F : Int → Int} {f : Int} : ∀ (q : Nat) (i : Int), (i ≤ kaf F f q i ∧ kaf F f q i ≤ i + q) ∧ (∀ j, i ≤ j → j < kaf F f q i → F j < f) ∧ (kaf F f q i < i + q → f ≤ F (kaf F f q i)) := by
  intro q
  induction q with
  | zero =>
    intro i
    unfold kaf
    exact ⟨⟨by omega, by omega⟩, fun j h1 h2 => by omega, fun h => by omega⟩
  | succ q ih =>
    intro i
    unfold kaf
    by_cases g : F i < f
    · rw [if_pos g]
      obtain ⟨h1, h2, h3⟩ := ih (i + 1)
      refine ⟨⟨by omega, by omega⟩, fun j h4 h5 => ?_, fun h => h3 (by omega)⟩
      by_cases e : j = i
      · rw [e]
        exact g
      · exact h2 j (by omega) h5
    · rw [if_neg g]
      exact ⟨⟨by omega, by omega⟩, fun j h4 h5 => by omega, fun _ => by omega⟩
theorem kah_r {K : Kys} (h : 0 ≤ K.1) (f : Int) : (0 ≤ kah K f ∧ kah K f ≤ K.1) ∧ (∀ j, 0 ≤ j → j < kah K f → K.2.1 j < f) ∧ (kah K f < K.1 → f ≤ K.2.1 (kah K f)) := by
  have := kaf_r (F := K.2.1) (f := f) K.1.toNat 0
  unfold kah
  rw [Int.zero_add, Int.toNat_of_nonneg h] at this
  exact this
/-- one is there -/
def kth (K : Kys) (f : Int) : Bool := decide (kah K f < K.1 ∧ K.2.1 (kah K f) = f)
def kput (K : Kys) (f v : Int) : Kys := if kth K f = true then (K.1, K.2.1, fun i => if i = kah K f then v else K.2.2 i) else (K.1 + 1, fun i => if i < kah K f then K.2.1 i else if i = kah K f then f else K.2.1 (i - 1), fun i => if i < kah K f then K.2.2 i else if i = kah K f then v else K.2.2 (i - 1))
def kdrop (K : Kys) (f : Int) : Kys := if kth K f = true then (K.1 - 1, fun i => if i < kah K f then K.2.1 i else K.2.1 (i + 1), fun i => if i < kah K f then K.2.2 i else K.2.2 (i + 1)) else K
def kval (K : Kys) (f o : Int) : Int := if K.1 = 0 then o else if kah K f = K.1 then K.2.2 (K.1 - 1) else if kah K f = 0 ∨ K.2.1 (kah K f) = f then K.2.2 (kah K f) else K.2.2 (kah K f - 1) + rd ((K.2.2 (kah K f) - K.2.2 (kah K f - 1)) * (f - K.2.1 (kah K f - 1))) (K.2.1 (kah K f) - K.2.1 (kah K f - 1))
section KY
variable {E : AEn} {h h' : AHi} {hr : AHr} {n : Nat} {Q : ARs → Prop} {o cap : Nat} {K : Kys} {lo hi f v : Int}
theorem kput_r (R : KR cap lo hi K) (hf : 0 ≤ f ∧ f ≤ 119) (hv : lo ≤ v ∧ v ≤ hi) (hc : K.1 < cap ∨ kth K f = true) : KR cap lo hi (kput K f v) := by
  obtain ⟨r1, r2, r3⟩ := R
  have ka := kah_r r1.1 f
  unfold kput
  by_cases t : kth K f = true
  · rw [if_pos t]
    refine ⟨r1, fun i i0 i1 => ⟨(r2 i i0 i1).1, ?_⟩, r3⟩
    dsimp only
    split
    · exact hv
    · exact (r2 i i0 i1).2
  · rw [if_neg t]
    have c := hc.resolve_right t
    have nt : ¬ (kah K f < K.1 ∧ K.2.1 (kah K f) = f) := fun q => t (decide_eq_true q)
    refine ⟨⟨by show 0 ≤ K.1 + 1; omega, by show K.1 + 1 ≤ cap; omega⟩, fun i i0 i1 => ?_, fun i j i0 i1 i2 => ?_⟩
    · have i2 : i < K.1 + 1 := i1
      dsimp only
      by_cases e1 : i < kah K f
      · rw [if_pos e1, if_pos e1]
        exact r2 i i0 (by omega)
      · rw [if_neg e1, if_neg e1]
        by_cases e2 : i = kah K f
        · rw [if_pos e2, if_pos e2]
          exact ⟨hf, hv⟩
        · rw [if_neg e2, if_neg e2]
          exact r2 (i - 1) (by omega) (by omega)
    · have i3 : j < K.1 + 1 := i2
      dsimp only
      by_cases e1 : j < kah K f
      · rw [if_pos (show i < kah K f by omega), if_pos e1]
        exact r3 i j i0 i1 (by omega)
      · rw [if_neg e1]
        by_cases e2 : j = kah K f
        · rw [if_pos e2, if_pos (show i < kah K f by omega)]
          exact ka.2.1 i i0 (by omega)
        · rw [if_neg e2]
          have j3 : f < K.2.1 (j - 1) := by
            have q1 := ka.2.2 (by omega)
            by_cases e3 : j - 1 = kah K f
            · rw [e3]
              have : K.2.1 (kah K f) ≠ f := fun q => nt ⟨by omega, q⟩
              omega
            · have := r3 (kah K f) (j - 1) (by omega) (by omega) (by omega)
              omega
          by_cases e4 : i < kah K f
          · rw [if_pos e4]
            have := ka.2.1 i i0 e4
            omega
          · rw [if_neg e4]
            by_cases e5 : i = kah K f
            · rw [if_pos e5]
              exact j3
            · rw [if_neg e5]
              exact r3 (i - 1) (j - 1) (by omega) (by omega) (by omega)
theorem kdrop_r (R : KR cap lo hi K) : KR cap lo hi (kdrop K f) := by
  have R0 := R
  obtain ⟨r1, r2, r3⟩ := R
  have ka := kah_r r1.1 f
  unfold kdrop
  by_cases t : kth K f = true
  · have tt : kah K f < K.1 ∧ K.2.1 (kah K f) = f := of_decide_eq_true t
    rw [if_pos t]
    refine ⟨⟨by show 0 ≤ K.1 - 1; omega, by show K.1 - 1 ≤ cap; omega⟩, fun i i0 i1 => ?_, fun i j i0 i1 i2 => ?_⟩
    · have i2 : i < K.1 - 1 := i1
      dsimp only
      by_cases e1 : i < kah K f
      · rw [if_pos e1, if_pos e1]
        exact r2 i i0 (by omega)
      · rw [if_neg e1, if_neg e1]
        exact r2 (i + 1) (by omega) (by omega)
    · have i3 : j < K.1 - 1 := i2
      dsimp only
      by_cases e1 : i < kah K f
      · rw [if_pos e1]
        by_cases e2 : j < kah K f
        · rw [if_pos e2]
          exact r3 i j i0 i1 (by omega)
        · rw [if_neg e2]
          exact r3 i (j + 1) i0 (by omega) (by omega)
      · rw [if_neg e1, if_neg (show ¬ j < kah K f by omega)]
        exact r3 (i + 1) (j + 1) (by omega) (by omega) (by omega)
  · rw [if_neg t]
    exact R0
theorem w53 (hn : 775 ≤ n) (B : Kb E hr o cap) (R : KR cap lo hi K) (C : KC h o K) (hf : 0 ≤ f ∧ f ≤ 119) (k : Q (some (.int (J (kah K f))), h, hr, n)) : Sp E 53 [.ref o, .int (J f)] h hr n Q := by
  obtain ⟨b1, b2, b3, b4, b5⟩ := B
  obtain ⟨r1, r2, r3⟩ := R
  obtain ⟨c1, c2⟩ := C
  have lt1 : o < n := by omega
  have lt2 : o + 1 < n := by omega
  have le1 : 43 ≤ o + 1 := by omega
  simp +decide (maxSteps := 4000000) (disch := omega) only [k53_0, k53_2, k53_r, k53_s, T_I, F_is2i, F_is2r, F_is2m, T_ft, F_il2, F_al0, T_getI, T_icge, T_getR, X_iald, F_il1, F_inc2i, F_inc2r, F_inc2m, T_goto, T_ret, TK, lt_run hn, le43, Int.le_refl, Int.lt_irrefl, Option.some.injEq, exists_eq_left', true_and, and_true, if_true, if_false, decide_eq_false_iff_not, decide_eq_true_eq, Nat.reduceAdd, Nat.reduceLeDiff, Nat.reduceLT, Int.reduceAdd, Int.reduceSub, Int.reduceMul, Int.reduceNeg, not_true_eq_false, not_false_eq_true]
  refine T_for (σ := Unit) (fun i _ => [.ref o, .int (J f), .int (J i)]) (fun i _ h' => h' = h ∧ kaf K.2.1 f (K.1 - i).toNat i = kah K f) 0 K.1 ?_ ?_ 0 () h (by omega) (by omega) ⟨rfl, by unfold kah; rw [Int.sub_zero]⟩
  · rintro i _ h' i0 i1 ⟨rfl, a⟩ ih
    have d1 := (c2 i i0 i1).1
    have d2 := r2 i i0 i1
    rw [show (K.1 - i).toNat = (K.1 - (i + 1)).toNat + 1 by omega] at a
    unfold kaf at a
    by_cases g : K.2.1 i < f
    · rw [if_pos g] at a
      rw [k53_1]
      simp +decide (maxSteps := 4000000) (disch := omega) only [k53_0, k53_2, k53_r, k53_s, T_I, F_is2i, F_is2r, F_is2m, T_ft, F_il2, F_al0, T_getI, T_icge, T_getR, X_iald, F_il1, F_inc2i, F_inc2r, F_inc2m, T_goto, T_ret, b1, b2, b3, b4, c1, d1, lt1, lt2, show ¬ K.1 ≤ i by omega, show ¬ f ≤ K.2.1 i by omega, TK, lt_run hn, le43, Int.le_refl, Int.lt_irrefl, Option.some.injEq, exists_eq_left', true_and, and_true, if_true, if_false, decide_eq_false_iff_not, decide_eq_true_eq, Nat.reduceAdd, Nat.reduceLeDiff, Nat.reduceLT, Int.reduceAdd, Int.reduceSub, Int.reduceMul, Int.reduceNeg, not_true_eq_false, not_false_eq_true]
      exact ih () _ ⟨rfl, a⟩
    · rw [if_neg g] at a
      rw [k53_1]
      simp +decide (maxSteps := 4000000) (disch := omega) only [k53_0, k53_2, k53_r, k53_s, T_I, F_is2i, F_is2r, F_is2m, T_ft, F_il2, F_al0, T_getI, T_icge, T_getR, X_iald, F_il1, F_inc2i, F_inc2r, F_inc2m, T_goto, T_ret, b1, b2, b3, b4, c1, d1, lt1, lt2, show ¬ K.1 ≤ i by omega, show f ≤ K.2.1 i by omega, TK, lt_run hn, le43, Int.le_refl, Int.lt_irrefl, Option.some.injEq, exists_eq_left', true_and, and_true, if_true, if_false, decide_eq_false_iff_not, decide_eq_true_eq, Nat.reduceAdd, Nat.reduceLeDiff, Nat.reduceLT, Int.reduceAdd, Int.reduceSub, Int.reduceMul, Int.reduceNeg, not_true_eq_false, not_false_eq_true]
      rw [a]
      exact k
  · rintro _ h' ⟨rfl, a⟩
    rw [show (K.1 - K.1).toNat = 0 by omega] at a
    unfold kaf at a
    rw [k53_1]
    simp +decide (maxSteps := 4000000) (disch := omega) only [k53_0, k53_2, k53_r, k53_s, T_I, F_is2i, F_is2r, F_is2m, T_ft, F_il2, F_al0, T_getI, T_icge, T_getR, X_iald, F_il1, F_inc2i, F_inc2r, F_inc2m, T_goto, T_ret, b1, b2, b3, b4, c1, lt1, TK, lt_run hn, le43, Int.le_refl, Int.lt_irrefl, Option.some.injEq, exists_eq_left', true_and, and_true, if_true, if_false, decide_eq_false_iff_not, decide_eq_true_eq, Nat.reduceAdd, Nat.reduceLeDiff, Nat.reduceLT, Int.reduceAdd, Int.reduceSub, Int.reduceMul, Int.reduceNeg, not_true_eq_false, not_false_eq_true]
    rw [a]
    exact k
theorem s53 (hn : 775 ≤ n) (B : Kb E hr o cap) (R : KR cap lo hi K) (C : KC h o K) (hf : 0 ≤ f ∧ f ≤ 119) : Sp E 53 [.ref o, .int (J f)] h hr n Q ↔ Q (some (.int (J (kah K f))), h, hr, n) := Sp_eq (w53 hn B R C hf rfl)
theorem s52 (hn : 775 ≤ n) (B : Kb E hr o cap) (R : KR cap lo hi K) (C : KC h o K) (hf : 0 ≤ f ∧ f ≤ 119) : Sp E 52 [.ref o, .int (J f)] h hr n Q ↔ Q (some (.int (Bz (kth K f))), h, hr, n) := by
  have S := fun Q => s53 (Q := Q) hn B R C hf
  obtain ⟨b1, b2, b3, b4, b5⟩ := B
  obtain ⟨r1, r2, r3⟩ := R
  obtain ⟨c1, c2⟩ := C
  have ka := kah_r r1.1 f
  have lt1 : o < n := by omega
  have lt2 : o + 1 < n := by omega
  have le1 : 43 ≤ o + 1 := by omega
  unfold kth
  by_cases g : kah K f < K.1
  · have d1 := (c2 _ ka.1.1 g).1
    have d2 := r2 _ ka.1.1 g
    by_cases g2 : K.2.1 (kah K f) = f
    · rw [decide_eq_true ⟨g, g2⟩]
      rw [g2] at d1
      simp +decide (maxSteps := 4000000) (disch := omega) only [k52_0, k52_1, k52_2, k52_r, k52_s, F_al0, F_il1, F_is2i, F_is2r, F_is2m, F_il2, T_getI, T_icge, T_getR, X_iald, J_icne, T_I, T_goto, T_ft, T_ret, c53, ↓s53, S, b1, b2, b3, b4, c1, d1, lt1, lt2, Bz_t, show ¬ K.1 ≤ kah K f by omega, TK, lt_run hn, le43, Int.le_refl, Int.lt_irrefl, Option.some.injEq, exists_eq_left', true_and, and_true, if_true, if_false, decide_eq_false_iff_not, decide_eq_true_eq, Nat.reduceAdd, Nat.reduceLeDiff, Nat.reduceLT, Int.reduceAdd, Int.reduceSub, Int.reduceMul, Int.reduceNeg, not_true_eq_false, not_false_eq_true]
    · rw [decide_eq_false (fun q => g2 q.2)]
      simp +decide (maxSteps := 4000000) (disch := omega) only [k52_0, k52_1, k52_2, k52_r, k52_s, F_al0, F_il1, F_is2i, F_is2r, F_is2m, F_il2, T_getI, T_icge, T_getR, X_iald, J_icne, T_I, T_goto, T_ft, T_ret, c53, ↓s53, S, b1, b2, b3, b4, c1, d1, lt1, lt2, g2, Bz_f, show ¬ K.1 ≤ kah K f by omega, TK, lt_run hn, le43, Int.le_refl, Int.lt_irrefl, Option.some.injEq, exists_eq_left', true_and, and_true, if_true, if_false, decide_eq_false_iff_not, decide_eq_true_eq, Nat.reduceAdd, Nat.reduceLeDiff, Nat.reduceLT, Int.reduceAdd, Int.reduceSub, Int.reduceMul, Int.reduceNeg, not_true_eq_false, not_false_eq_true]
  · rw [decide_eq_false (fun q => g q.1)]
    simp +decide (maxSteps := 4000000) (disch := omega) only [k52_0, k52_1, k52_2, k52_r, k52_s, F_al0, F_il1, F_is2i, F_is2r, F_is2m, F_il2, T_getI, T_icge, T_getR, X_iald, J_icne, T_I, T_goto, T_ft, T_ret, c53, ↓s53, S, b1, b2, b3, b4, c1, lt1, lt2, Bz_f, show K.1 ≤ kah K f by omega, TK, lt_run hn, le43, Int.le_refl, Int.lt_irrefl, Option.some.injEq, exists_eq_left', true_and, and_true, if_true, if_false, decide_eq_false_iff_not, decide_eq_true_eq, Nat.reduceAdd, Nat.reduceLeDiff, Nat.reduceLT, Int.reduceAdd, Int.reduceSub, Int.reduceMul, Int.reduceNeg, not_true_eq_false, not_false_eq_true]
theorem s51 (hn : 775 ≤ n) (B : Kb E hr o cap) (R : KR cap lo hi K) (C : KC h o K) (hf : 0 ≤ f ∧ f ≤ 119) : Sp E 51 [.ref o, .int (J f)] h hr n Q ↔ Q (some (.int (Bz (decide (K.1 < cap ∨ kth K f = true)))), h, hr, n) := by
  have S := fun Q => s52 (Q := Q) hn B R C hf
  obtain ⟨b1, b2, b3, b4, b5⟩ := B
  obtain ⟨r1, r2, r3⟩ := R
  obtain ⟨c1, c2⟩ := C
  have lt1 : o < n := by omega
  have lt2 : o + 1 < n := by omega
  by_cases g : K.1 < cap
  · rw [decide_eq_true (Or.inl g)]
    simp +decide (maxSteps := 4000000) (disch := omega) only [k51_0, k51_1, k51_2, k51_3, k51_r, k51_s, F_al0, T_getI, T_getR, J_alen, T_iclt, F_il1, J_ifeq, T_ft, T_I, T_goto, T_ret, c52, ↓s52, S, b1, b2, b3, b4, c1, lt1, lt2, g, Bz_t, TK, lt_run hn, le43, Int.le_refl, Int.lt_irrefl, Option.some.injEq, exists_eq_left', true_and, and_true, if_true, if_false, decide_eq_false_iff_not, decide_eq_true_eq, Nat.reduceAdd, Nat.reduceLeDiff, Nat.reduceLT, Int.reduceAdd, Int.reduceSub, Int.reduceMul, Int.reduceNeg, not_true_eq_false, not_false_eq_true]
  · cases t : kth K f with
    | true =>
      rw [decide_eq_true (Or.inr rfl)]
      rw [t, Bz_t] at S
      simp +decide (maxSteps := 4000000) (disch := omega) only [k51_0, k51_1, k51_2, k51_3, k51_r, k51_s, F_al0, T_getI, T_getR, J_alen, T_iclt, F_il1, J_ifeq, T_ft, T_I, T_goto, T_ret, c52, ↓s52, S, b1, b2, b3, b4, c1, lt1, lt2, g, Bz_t, TK, lt_run hn, le43, Int.le_refl, Int.lt_irrefl, Option.some.injEq, exists_eq_left', true_and, and_true, if_true, if_false, decide_eq_false_iff_not, decide_eq_true_eq, Nat.reduceAdd, Nat.reduceLeDiff, Nat.reduceLT, Int.reduceAdd, Int.reduceSub, Int.reduceMul, Int.reduceNeg, not_true_eq_false, not_false_eq_true]
    | false =>
      rw [decide_eq_false (fun q => q.elim g (by decide))]
      rw [t, Bz_f] at S
      simp +decide (maxSteps := 4000000) (disch := omega) only [k51_0, k51_1, k51_2, k51_3, k51_r, k51_s, F_al0, T_getI, T_getR, J_alen, T_iclt, F_il1, J_ifeq, T_ft, T_I, T_goto, T_ret, c52, ↓s52, S, b1, b2, b3, b4, c1, lt1, lt2, g, Bz_f, TK, lt_run hn, le43, Int.le_refl, Int.lt_irrefl, Option.some.injEq, exists_eq_left', true_and, and_true, if_true, if_false, decide_eq_false_iff_not, decide_eq_true_eq, Nat.reduceAdd, Nat.reduceLeDiff, Nat.reduceLT, Int.reduceAdd, Int.reduceSub, Int.reduceMul, Int.reduceNeg, not_true_eq_false, not_false_eq_true]
theorem s55 (hn : 775 ≤ n) (B : Kb E hr o cap) (R : KR cap lo hi K) (hr' : -400 ≤ lo ∧ hi ≤ 400) (C : KC h o K) (hf : 0 ≤ f ∧ f ≤ 119) : Sp E 55 [.ref o, .int (J f), .int (J v)] h hr n Q ↔ Q (some (.int (J (kval K f v))), h, hr, n) := by
  have S := fun Q => s53 (Q := Q) hn B R C hf
  obtain ⟨b1, b2, b3, b4, b5⟩ := B
  obtain ⟨r1, r2, r3⟩ := R
  obtain ⟨c1, c2⟩ := C
  have ka := kah_r r1.1 f
  have lt1 : o < n := by omega
  have lt2 : o + 1 < n := by omega
  have lt3 : o + 2 < n := by omega
  have le1 : 43 ≤ o + 1 := by omega
  have le2 : 43 ≤ o + 2 := by omega
  unfold kval
  by_cases g1 : K.1 = 0
  · rw [if_pos g1]
    rw [g1] at c1
    simp +decide (maxSteps := 4000000) (disch := omega) only [k55_0, k55_1, k55_2, k55_3, k55_4, k55_r, k55_s, F_al0, T_getI, J_ifne, F_il2, T_ret, F_il1, F_is3i, F_is3r, F_is3m, F_il3, J_icne, T_getR, T_I, T_sub, X_iald, J_ifeq, T_ft, F_is4i, F_is4r, F_is4m, F_il4, T_mul, T_i2l, T_add, c53, c146, ↓s53, ↓s146, S, b1, b2, b3, b4, c1, lt1, lt2, lt3, TK, lt_run hn, le43, Int.le_refl, Int.lt_irrefl, Option.some.injEq, exists_eq_left', true_and, and_true, if_true, if_false, decide_eq_false_iff_not, decide_eq_true_eq, Nat.reduceAdd, Nat.reduceLeDiff, Nat.reduceLT, Int.reduceAdd, Int.reduceSub, Int.reduceMul, Int.reduceNeg, not_true_eq_false, not_false_eq_true]
  rw [if_neg g1]
  by_cases g2 : kah K f = K.1
  · rw [if_pos g2]
    have d1 := (c2 (K.1 - 1) (by omega) (by omega)).2
    simp +decide (maxSteps := 4000000) (disch := omega) only [k55_0, k55_1, k55_2, k55_3, k55_4, k55_r, k55_s, F_al0, T_getI, J_ifne, F_il2, T_ret, F_il1, F_is3i, F_is3r, F_is3m, F_il3, J_icne, T_getR, T_I, T_sub, X_iald, J_ifeq, T_ft, F_is4i, F_is4r, F_is4m, F_il4, T_mul, T_i2l, T_add, c53, c146, ↓s53, ↓s146, S, b1, b2, b3, b4, c1, d1, lt1, lt2, lt3, g1, g2, TK, lt_run hn, le43, Int.le_refl, Int.lt_irrefl, Option.some.injEq, exists_eq_left', true_and, and_true, if_true, if_false, decide_eq_false_iff_not, decide_eq_true_eq, Nat.reduceAdd, Nat.reduceLeDiff, Nat.reduceLT, Int.reduceAdd, Int.reduceSub, Int.reduceMul, Int.reduceNeg, not_true_eq_false, not_false_eq_true]
  rw [if_neg g2]
  obtain ⟨d1, d2⟩ := c2 (kah K f) ka.1.1 (by omega)
  have e1 := r2 (kah K f) ka.1.1 (by omega)
  by_cases g3 : kah K f = 0
  · rw [if_pos (Or.inl g3)]
    rw [g3] at d2 ⊢
    rw [g3] at S
    simp +decide (maxSteps := 4000000) (disch := omega) only [k55_0, k55_1, k55_2, k55_3, k55_4, k55_r, k55_s, F_al0, T_getI, J_ifne, F_il2, T_ret, F_il1, F_is3i, F_is3r, F_is3m, F_il3, J_icne, T_getR, T_I, T_sub, X_iald, J_ifeq, T_ft, F_is4i, F_is4r, F_is4m, F_il4, T_mul, T_i2l, T_add, c53, c146, ↓s53, ↓s146, S, b1, b2, b3, b4, c1, d2, lt1, lt2, lt3, g1, show ¬ 0 = K.1 by omega, TK, lt_run hn, le43, Int.le_refl, Int.lt_irrefl, Option.some.injEq, exists_eq_left', true_and, and_true, if_true, if_false, decide_eq_false_iff_not, decide_eq_true_eq, Nat.reduceAdd, Nat.reduceLeDiff, Nat.reduceLT, Int.reduceAdd, Int.reduceSub, Int.reduceMul, Int.reduceNeg, not_true_eq_false, not_false_eq_true]
  by_cases g4 : K.2.1 (kah K f) = f
  · rw [if_pos (Or.inr g4)]
    rw [g4] at d1
    simp +decide (maxSteps := 4000000) (disch := omega) only [k55_0, k55_1, k55_2, k55_3, k55_4, k55_r, k55_s, F_al0, T_getI, J_ifne, F_il2, T_ret, F_il1, F_is3i, F_is3r, F_is3m, F_il3, J_icne, T_getR, T_I, T_sub, X_iald, J_ifeq, T_ft, F_is4i, F_is4r, F_is4m, F_il4, T_mul, T_i2l, T_add, c53, c146, ↓s53, ↓s146, S, b1, b2, b3, b4, c1, d1, d2, lt1, lt2, lt3, g1, g2, g3, TK, lt_run hn, le43, Int.le_refl, Int.lt_irrefl, Option.some.injEq, exists_eq_left', true_and, and_true, if_true, if_false, decide_eq_false_iff_not, decide_eq_true_eq, Nat.reduceAdd, Nat.reduceLeDiff, Nat.reduceLT, Int.reduceAdd, Int.reduceSub, Int.reduceMul, Int.reduceNeg, not_true_eq_false, not_false_eq_true]
  rw [if_neg (fun q => q.elim g3 g4)]
  obtain ⟨d3, d4⟩ := c2 (kah K f - 1) (by omega) (by omega)
  have e2 := r2 (kah K f - 1) (by omega) (by omega)
  have e3 := ka.2.1 (kah K f - 1) (by omega) (by omega)
  have e4 := ka.2.2 (by omega)
  have mb := mulb (a := K.2.2 (kah K f) - K.2.2 (kah K f - 1)) (b := f - K.2.1 (kah K f - 1)) (A := 800) (B := 119) (by omega) (by omega)
  simp +decide (maxSteps := 4000000) (disch := omega) only [k55_0, k55_1, k55_2, k55_3, k55_4, k55_r, k55_s, F_al0, T_getI, J_ifne, F_il2, T_ret, F_il1, F_is3i, F_is3r, F_is3m, F_il3, J_icne, T_getR, T_I, T_sub, X_iald, J_ifeq, T_ft, F_is4i, F_is4r, F_is4m, F_il4, T_mul, T_i2l, T_add, c53, c146, ↓s53, ↓s146, S, b1, b2, b3, b4, c1, d1, d2, d3, d4, lt1, lt2, lt3, g1, g2, g3, g4, J_l, TK, lt_run hn, le43, Int.le_refl, Int.lt_irrefl, Option.some.injEq, exists_eq_left', true_and, and_true, if_true, if_false, decide_eq_false_iff_not, decide_eq_true_eq, Nat.reduceAdd, Nat.reduceLeDiff, Nat.reduceLT, Int.reduceAdd, Int.reduceSub, Int.reduceMul, Int.reduceNeg, not_true_eq_false, not_false_eq_true]
def Sky (o a k : Nat) : Prop := (a = o ∧ k = 2) ∨ a = o + 1 ∨ a = o + 2
theorem w54 (hn : 775 ≤ n) (B : Kb E hr o cap) (R : KR cap lo hi K) (C : KC h o K) (hf : 0 ≤ f ∧ f ≤ 119) (hc : K.1 < cap ∨ kth K f = true) (k : ∀ h', KC h' o (kput K f v) → Ef (Sky o) h h' → Q (none, h', hr, n)) : Sp E 54 [.ref o, .int (J f), .int (J v)] h hr n Q := by
  have S1 := fun Q => s51 (Q := Q) hn B R C hf
  have S2 := fun Q => s52 (Q := Q) hn B R C hf
  have S3 := fun Q => s53 (Q := Q) hn B R C hf
  rw [decide_eq_true hc, Bz_t] at S1
  obtain ⟨b1, b2, b3, b4, b5⟩ := B
  obtain ⟨r1, r2, r3⟩ := R
  obtain ⟨c1, c2⟩ := C
  have ka := kah_r r1.1 f
  have lt1 : o < n := by omega
  have lt2 : o + 1 < n := by omega
  have lt3 : o + 2 < n := by omega
  have le1 : 43 ≤ o + 1 := by omega
  have le2 : 43 ≤ o + 2 := by omega
  unfold kput at k
  cases t : kth K f with
  | true =>
    have tt : kah K f < K.1 ∧ K.2.1 (kah K f) = f := of_decide_eq_true t
    rw [if_pos t] at k
    rw [t, Bz_t] at S2
    simp +decide (maxSteps := 4000000) (disch := omega) only [k54_0, k54_1, k54_2, k54_r, k54_s, F_al0, F_il1, J_ifne, T_ret, F_is3i, F_is3r, F_is3m, T_getR, F_il3, T_I, T_add, T_getI, T_sub, J_cp, T_dupI, T_dupR, T_putI, T_putZ, T_ft, T_iast, F_il2, c51, c52, c53, ↓s51, ↓s52, ↓s53, S1, S2, S3, b1, b2, b3, b4, lt1, lt2, lt3, le1, le2, TK, lt_run hn, le43, Int.le_refl, Int.lt_irrefl, Option.some.injEq, exists_eq_left', true_and, and_true, if_true, if_false, decide_eq_false_iff_not, decide_eq_true_eq, Nat.reduceAdd, Nat.reduceLeDiff, Nat.reduceLT, Int.reduceAdd, Int.reduceSub, Int.reduceMul, Int.reduceNeg, not_true_eq_false, not_false_eq_true]
    refine k _ ⟨?_, fun i i0 i1 => ?_⟩ (Ef.sA (Ef.sA Ef.refl (Or.inr (Or.inl rfl))) (Or.inr (Or.inr rfl)))
    · rw [sA_o (by omega), sA_o (by omega)]
      exact c1
    · have d := c2 i i0 i1
      rw [gs_o (by omega)]
      dsimp only
      by_cases e : i = kah K f
      · rw [if_pos e, e, gs_s, gs_s, tt.2]
        exact ⟨rfl, rfl⟩
      · rw [if_neg e, gs_k ka.1.1 i0 e, gs_k ka.1.1 i0 e, gs_o (by omega)]
        exact d
  | false =>
    have c := hc.resolve_right (by rw [t]; decide)
    rw [if_neg (by rw [t]; decide)] at k
    rw [t, Bz_f] at S2
    have e1 : ∀ i j c, cpA h (o + 1) i (o + 1) j c o 2 = J K.1 := fun i j c => by rw [cp_o (by omega)]; exact c1
    have e2 : ∀ i j c i' j' c', cpA (cpA h (o + 1) i (o + 1) j c) (o + 2) i' (o + 2) j' c' o 2 = J K.1 := fun i j c i' j' c' => by rw [cp_o (by omega)]; exact e1 i j c
    simp +decide (maxSteps := 4000000) (disch := omega) only [k54_0, k54_1, k54_2, k54_r, k54_s, F_al0, F_il1, J_ifne, T_ret, F_is3i, F_is3r, F_is3m, T_getR, F_il3, T_I, T_add, T_getI, T_sub, J_cp, T_dupI, T_dupR, T_putI, T_putZ, T_ft, T_iast, F_il2, c51, c52, c53, ↓s51, ↓s52, ↓s53, S1, S2, S3, b1, b2, b3, b4, lt1, lt2, lt3, le1, le2, c1, e1, e2, true_or, TK, lt_run hn, le43, Int.le_refl, Int.lt_irrefl, Option.some.injEq, exists_eq_left', true_and, and_true, if_true, if_false, decide_eq_false_iff_not, decide_eq_true_eq, Nat.reduceAdd, Nat.reduceLeDiff, Nat.reduceLT, Int.reduceAdd, Int.reduceSub, Int.reduceMul, Int.reduceNeg, not_true_eq_false, not_false_eq_true]
    refine k _ ⟨?_, fun i i0 i1 => ?_⟩ (Ef.sA (Ef.sA (Ef.hI (cp_e (cp_e Ef.refl (fun _ => Or.inr (Or.inl rfl))) (fun _ => Or.inr (Or.inr rfl))) (Or.inl ⟨rfl, rfl⟩)) (Or.inr (Or.inl rfl))) (Or.inr (Or.inr rfl)))
    · rw [sA_o (by omega), sA_o (by omega), hI_s]
    · have i2 : i < K.1 + 1 := i1
      rw [gs_o (by omega)]
      dsimp only
      by_cases e : i = kah K f
      · rw [if_neg (show ¬ i < kah K f by omega), if_neg (show ¬ i < kah K f by omega), if_pos e, if_pos e, e, gs_s, gs_s]
        exact ⟨rfl, rfl⟩
      · rw [gs_k ka.1.1 i0 e, gs_k ka.1.1 i0 e, gs_o (by omega), gA_o (by omega), gA_o (by omega), cp_go (by omega), cp_g (by omega) (by omega) (by omega) i0, cp_g (by omega) (by omega) (by omega) i0, cp_go (by omega), cp_go (by omega)]
        by_cases e3 : i < kah K f
        · have z : ¬ (kah K f + 1 ≤ i ∧ i < kah K f + 1 + (K.1 - kah K f)) := by omega
          rw [if_neg z, if_neg z, if_pos e3, if_pos e3]
          exact c2 i i0 (by omega)
        · have z : kah K f + 1 ≤ i ∧ i < kah K f + 1 + (K.1 - kah K f) := by omega
          rw [if_pos z, if_pos z, if_neg e3, if_neg e3, if_neg e, if_neg e, show kah K f + (i - (kah K f + 1)) = i - 1 by omega]
          exact c2 (i - 1) (by omega) (by omega)
theorem w56 (hn : 775 ≤ n) (B : Kb E hr o cap) (R : KR cap lo hi K) (C : KC h o K) (hf : 0 ≤ f ∧ f ≤ 119) (k : ∀ h', KC h' o (kdrop K f) → Ef (Sky o) h h' → Q (none, h', hr, n)) : Sp E 56 [.ref o, .int (J f)] h hr n Q := by
  have S2 := fun Q => s52 (Q := Q) hn B R C hf
  have S3 := fun Q => s53 (Q := Q) hn B R C hf
  have C0 := C
  obtain ⟨b1, b2, b3, b4, b5⟩ := B
  obtain ⟨r1, r2, r3⟩ := R
  obtain ⟨c1, c2⟩ := C
  have ka := kah_r r1.1 f
  have lt1 : o < n := by omega
  have lt2 : o + 1 < n := by omega
  have lt3 : o + 2 < n := by omega
  have le1 : 43 ≤ o + 1 := by omega
  have le2 : 43 ≤ o + 2 := by omega
  unfold kdrop at k
  cases t : kth K f with
  | false =>
    rw [if_neg (by rw [t]; decide)] at k
    rw [t, Bz_f] at S2
    simp +decide (maxSteps := 4000000) (disch := omega) only [k56_0, k56_1, k56_r, k56_s, F_al0, F_il1, J_ifeq, F_is2i, F_is2r, F_is2m, T_getR, F_il2, T_I, T_add, T_getI, T_sub, J_cp, T_dupI, T_dupR, T_putI, T_putZ, T_ft, T_ret, c52, c53, ↓s52, ↓s53, S2, S3, b1, b2, b3, b4, lt1, lt2, lt3, TK, lt_run hn, le43, Int.le_refl, Int.lt_irrefl, Option.some.injEq, exists_eq_left', true_and, and_true, if_true, if_false, decide_eq_false_iff_not, decide_eq_true_eq, Nat.reduceAdd, Nat.reduceLeDiff, Nat.reduceLT, Int.reduceAdd, Int.reduceSub, Int.reduceMul, Int.reduceNeg, not_true_eq_false, not_false_eq_true]
    exact k h C0 Ef.refl
  | true =>
    have tt : kah K f < K.1 ∧ K.2.1 (kah K f) = f := of_decide_eq_true t
    rw [if_pos t] at k
    rw [t, Bz_t] at S2
    have e1 : ∀ i j c, cpA h (o + 1) i (o + 1) j c o 2 = J K.1 := fun i j c => by rw [cp_o (by omega)]; exact c1
    have e2 : ∀ i j c i' j' c', cpA (cpA h (o + 1) i (o + 1) j c) (o + 2) i' (o + 2) j' c' o 2 = J K.1 := fun i j c i' j' c' => by rw [cp_o (by omega)]; exact e1 i j c
    simp +decide (maxSteps := 4000000) (disch := omega) only [k56_0, k56_1, k56_r, k56_s, F_al0, F_il1, J_ifeq, F_is2i, F_is2r, F_is2m, T_getR, F_il2, T_I, T_add, T_getI, T_sub, J_cp, T_dupI, T_dupR, T_putI, T_putZ, T_ft, T_ret, c52, c53, ↓s52, ↓s53, S2, S3, b1, b2, b3, b4, lt1, lt2, lt3, le1, le2, c1, e1, e2, true_or, TK, lt_run hn, le43, Int.le_refl, Int.lt_irrefl, Option.some.injEq, exists_eq_left', true_and, and_true, if_true, if_false, decide_eq_false_iff_not, decide_eq_true_eq, Nat.reduceAdd, Nat.reduceLeDiff, Nat.reduceLT, Int.reduceAdd, Int.reduceSub, Int.reduceMul, Int.reduceNeg, not_true_eq_false, not_false_eq_true]
    refine k _ ⟨hI_s, fun i i0 i1 => ?_⟩ (Ef.hI (cp_e (cp_e Ef.refl (fun _ => Or.inr (Or.inl rfl))) (fun _ => Or.inr (Or.inr rfl))) (Or.inl ⟨rfl, rfl⟩))
    have i2 : i < K.1 - 1 := i1
    rw [gA_o (by omega), gA_o (by omega), cp_go (by omega), cp_g (by omega) (by omega) (by omega) i0, cp_g (by omega) (by omega) (by omega) i0, cp_go (by omega), cp_go (by omega)]
    dsimp only
    by_cases e3 : i < kah K f
    · have z : ¬ (kah K f ≤ i ∧ i < kah K f + (K.1 - kah K f - 1)) := by omega
      rw [if_neg z, if_neg z, if_pos e3, if_pos e3]
      exact c2 i i0 (by omega)
    · have z : kah K f ≤ i ∧ i < kah K f + (K.1 - kah K f - 1) := by omega
      rw [if_pos z, if_pos z, if_neg e3, if_neg e3, show kah K f + 1 + (i - kah K f) = i + 1 by omega]
      exact c2 (i + 1) (by omega) (by omega)
theorem KC.ef {S : Nat → Nat → Prop} (C : KC h o K) (e : Ef S h h') (hs : ∀ x k, o ≤ x → x ≤ o + 2 → ¬ S x k) : KC h' o K := ⟨by rw [e o 2 (hs _ _ (by omega) (by omega))]; exact C.1, fun i i0 i1 => by rw [e.g (hs _ _ (by omega) (by omega)), e.g (hs _ _ (by omega) (by omega))]; exact C.2 i i0 i1⟩
end KY
