/-! REGIONS: the reference's way -/
/-- what the reference holds of a region under way: w wait in T, M is reached, D is done -/
def RM (W : Int → Int) (s : Int) (h : AHi) (w : Int) (M D : Int → Bool) (T : Int → Int) (o : Bool) : Prop := (h 704 36 = J (cnt D) ∧ h 704 37 = Bz o) ∧ (∀ q, 0 ≤ q → q < 1536 → gA h 729 q = Bz (M q)) ∧ (∀ i, 0 ≤ i → i < w → gA h 730 i = J (T i) ∧ M (T i) = true ∧ D (T i) = false) ∧ (∀ i j, 0 ≤ i → i < j → j < w → T i ≠ T j) ∧ (0 ≤ w ∧ cnt M = cnt D + w) ∧ (∀ p, M p = true → Cn W s p ∧ (D p = true ∨ ∃ i, 0 ≤ i ∧ i < w ∧ T i = p)) ∧ (∀ p, D p = true → M p = true) ∧ (o = true ↔ ∃ p, D p = true ∧ bdr p = true)
def Scf (a k : Nat) : Prop := a = 729 ∨ a = 730 ∨ (a = 704 ∧ (k = 36 ∨ k = 37))
section FM
variable {E : AEn} {h h' : AHi} {hr : AHr} {n : Nat} {Q : ARs → Prop} {f : Int → Int} {l : List (Int × Int)} {g s w : Int} {W : Int → Int} {M D : Int → Bool} {T : Int → Int} {o : Bool}
theorem RM.push (C : RM W s h w M D T o) {q : Int} (hq : 0 ≤ q ∧ q < 1536) (hM : M q = false) (hc : Cn W s q) : RM W s (sA (sA h 729 q (J 1)) 730 w (J q)) (w + 1) (setB M q) D (fun i => if i = w then q else T i) o := by
  obtain ⟨⟨c1, c2⟩, c3, c4, c5, c6, c7, c8, c9⟩ := C
  have hD : D q = false := by
    cases e : D q with
    | false => rfl
    | true =>
      have := c8 q e
      rw [hM] at this
      cases this
  refine ⟨⟨?_, ?_⟩, fun p p0 p1 => ?_, fun i i0 i1 => ?_, fun i j i0 i1 i2 => ?_, ⟨by omega, ?_⟩, fun p hp => ?_, fun p hp => setB_m (c8 p hp), c9⟩
  · rw [sA_o (by decide), sA_o (by decide)]
    exact c1
  · rw [sA_o (by decide), sA_o (by decide)]
    exact c2
  · rw [gs_o (by decide)]
    by_cases e : p = q
    · rw [e, gs_s, setB_s]
      rfl
    · rw [gs_k hq.1 p0 e, setB_o e]
      exact c3 p p0 p1
  · dsimp only
    by_cases e : i = w
    · rw [if_pos e, e, gs_s]
      exact ⟨rfl, setB_s M q, hD⟩
    · rw [if_neg e, gs_k (by omega) i0 e, gs_o (by decide)]
      have := c4 i i0 (by omega)
      exact ⟨this.1, setB_m this.2.1, this.2.2⟩
  · dsimp only
    rw [if_neg (show ¬ i = w by omega)]
    by_cases e : j = w
    · rw [if_pos e]
      intro e2
      have := (c4 i i0 (by omega)).2.1
      rw [e2, hM] at this
      cases this
    · rw [if_neg e]
      exact c5 i j i0 i1 (by omega)
  · rw [cnt_set hq hM]
    omega
  · by_cases e : p = q
    · rw [e]
      exact ⟨hc, Or.inr ⟨w, by omega, by omega, if_pos rfl⟩⟩
    · rw [setB_o e] at hp
      obtain ⟨d1, d2 | ⟨i, i0, i1, i2⟩⟩ := c7 p hp
      · exact ⟨d1, Or.inl d2⟩
      · exact ⟨d1, Or.inr ⟨i, i0, by omega, by dsimp only; rw [if_neg (by omega)]; exact i2⟩⟩
theorem RM.pop (C : RM W s h w M D T o) (hw : 0 < w) : RM W s (hI (hI h 704 36 (J (cnt D + 1))) 704 37 (Bz (o || bdr (T (w - 1))))) (w - 1) M (setB D (T (w - 1))) T (o || bdr (T (w - 1))) := by
  obtain ⟨⟨c1, c2⟩, c3, c4, c5, c6, c7, c8, c9⟩ := C
  obtain ⟨d1, d2, d3⟩ := c4 (w - 1) (by omega) (by omega)
  have fr := (c7 _ d2).1.f
  have cs := cnt_set (p := T (w - 1)) ⟨fr.1, fr.2.1⟩ d3
  refine ⟨⟨?_, hI_s⟩, fun p p0 p1 => ?_, fun i i0 i1 => ?_, fun i j i0 i1 i2 => c5 i j i0 i1 (by omega), ⟨by omega, by omega⟩, fun p hp => ?_, fun p hp => ?_, ?_⟩
  · rw [hI_k (by decide), hI_s, cs]
  · rw [gA_o (by decide), gA_o (by decide)]
    exact c3 p p0 p1
  · rw [gA_o (by decide), gA_o (by decide)]
    have := c4 i i0 (by omega)
    have ne := c5 i (w - 1) i0 (by omega) (by omega)
    exact ⟨this.1, this.2.1, by rw [setB_o ne]; exact this.2.2⟩
  · obtain ⟨e1, e2 | ⟨i, i0, i1, i2⟩⟩ := c7 p hp
    · exact ⟨e1, Or.inl (setB_m e2)⟩
    · by_cases e : i = w - 1
      · rw [← i2, e]
        rw [← i2, e] at e1
        exact ⟨e1, Or.inl (setB_s _ _)⟩
      · exact ⟨e1, Or.inr ⟨i, i0, by omega, i2⟩⟩
  · by_cases e : p = T (w - 1)
    · rw [e]
      exact d2
    · rw [setB_o e] at hp
      exact c8 p hp
  · rw [Bool.or_eq_true, c9]
    constructor
    · rintro (⟨p, p1, p2⟩ | q)
      · exact ⟨p, setB_m p1, p2⟩
      · exact ⟨_, setB_s _ _, q⟩
    · rintro ⟨p, p1, p2⟩
      by_cases e : p = T (w - 1)
      · rw [e] at p2
        exact Or.inr p2
      · rw [setB_o e] at p1
        exact Or.inl ⟨p, p1, p2⟩
theorem z254n (F : FH hr) (hn : 775 ≤ n) {v1 v2 v3 v6 v7 v9 v11 : Value} {nx cy dy : Int} (hx : -1 ≤ nx ∧ nx ≤ 48) (hy : -1 ≤ cy + dy ∧ cy + dy ≤ 32) (PW : PB h 728 W) (C : RM W s h w M D T o) (hc : (0 ≤ nx ∧ nx ≤ 47) ∧ (0 ≤ cy + dy ∧ cy + dy ≤ 31) → fre W (48 * (cy + dy) + nx) → Cn W s (48 * (cy + dy) + nx))
    (k : ∀ h' w' M' T', RM W s h' w' M' D T' o → (∀ q, M q = true → M' q = true) → ((0 ≤ nx ∧ nx ≤ 47) ∧ (0 ≤ cy + dy ∧ cy + dy ≤ 31) → fre W (48 * (cy + dy) + nx) → M' (48 * (cy + dy) + nx) = true) → Ef Scf h h' → Tm E 254 (a_bl 254 15) [.ref 704, v1, v2, v3, .int (J g), .int (J w'), v6, v7, .int (J cy), v9, .int (J nx), .int (J (cy + dy))] [] h' hr n Q) :
    Tm E 254 (a_bl 254 13) [.ref 704, v1, v2, v3, .int (J g), .int (J w), v6, v7, .int (J cy), v9, .int (J nx), v11] [.int (J dy), .int (J cy)] h hr n Q := by
  have C0 := C
  obtain ⟨⟨c1, c2⟩, c3, c4, c5, c6, c7, c8, c9⟩ := C
  obtain ⟨ny, hny⟩ : ∃ ny, cy + dy = ny := ⟨_, rfl⟩
  rw [hny] at hy hc k
  by_cases g1 : (0 ≤ nx ∧ nx ≤ 47) ∧ 0 ≤ ny ∧ ny ≤ 31
  case neg =>
    rw [k254_13]
    simp +decide (maxSteps := 4000000) (disch := omega) only [k254_0, k254_2, k254_4, k254_5, k254_6, k254_8, k254_9, k254_10, k254_11, k254_12, k254_13, k254_14, k254_16, k254_17, k254_r, k254_s, F_al0, F_il1, F_il4, T_I, F_is5i, F_is5r, F_is5m, T_ft, F_il5, T_icge, T_getR, T_bast, F_inc5i, F_inc5r, F_inc5m, T_goto, T_putI, T_putZ, F_il3, T_mul, F_il2, T_add, X_bald, J_ifne, T_iast, J_ifle, X_iald, F_is6i, F_is6r, F_is6m, F_il6, T_rem, F_is7i, F_is7r, F_is7m, T_div, F_is8i, F_is8r, F_is8m, T_dupI, T_dupR, T_getI, F_il7, J_ifeq, T_iceq, F_il8, J_icne, F_is9i, F_is9r, F_is9m, F_il9, F_is10i, F_is10r, F_is10m, F_is11i, F_is11r, F_is11m, F_il10, F_il11, F_inc9i, F_inc9r, F_inc9m, T_ret, c237, c255, ↓s237, FM F, hny, g1, TK, lt_run hn, le43, Int.le_refl, Int.lt_irrefl, Option.some.injEq, exists_eq_left', true_and, and_true, if_true, if_false, decide_eq_false_iff_not, decide_eq_true_eq, Nat.reduceAdd, Nat.reduceLeDiff, Nat.reduceLT, Int.reduceAdd, Int.reduceSub, Int.reduceMul, Int.reduceNeg, not_true_eq_false, not_false_eq_true]
    exact k h w M T C0 (fun _ q => q) (fun q _ => absurd q g1) Ef.refl
  have b1 := PW (48 * ny + nx) (by omega) (by omega)
  have b2 := c3 (48 * ny + nx) (by omega) (by omega)
  by_cases g2 : W (48 * ny + nx) = 0
  case neg =>
    rw [decide_eq_true g2, Bz_t] at b1
    rw [k254_13]
    simp +decide (maxSteps := 4000000) (disch := omega) only [k254_0, k254_2, k254_4, k254_5, k254_6, k254_8, k254_9, k254_10, k254_11, k254_12, k254_13, k254_14, k254_16, k254_17, k254_r, k254_s, F_al0, F_il1, F_il4, T_I, F_is5i, F_is5r, F_is5m, T_ft, F_il5, T_icge, T_getR, T_bast, F_inc5i, F_inc5r, F_inc5m, T_goto, T_putI, T_putZ, F_il3, T_mul, F_il2, T_add, X_bald, J_ifne, T_iast, J_ifle, X_iald, F_is6i, F_is6r, F_is6m, F_il6, T_rem, F_is7i, F_is7r, F_is7m, T_div, F_is8i, F_is8r, F_is8m, T_dupI, T_dupR, T_getI, F_il7, J_ifeq, T_iceq, F_il8, J_icne, F_is9i, F_is9r, F_is9m, F_il9, F_is10i, F_is10r, F_is10m, F_is11i, F_is11r, F_is11m, F_il10, F_il11, F_inc9i, F_inc9r, F_inc9m, T_ret, c237, c255, ↓s237, FM F, hny, g1, b1, ln_728, true_or, or_true, TK, lt_run hn, le43, Int.le_refl, Int.lt_irrefl, Option.some.injEq, exists_eq_left', true_and, and_true, if_true, if_false, decide_eq_false_iff_not, decide_eq_true_eq, Nat.reduceAdd, Nat.reduceLeDiff, Nat.reduceLT, Int.reduceAdd, Int.reduceSub, Int.reduceMul, Int.reduceNeg, not_true_eq_false, not_false_eq_true]
    exact k h w M T C0 (fun _ q => q) (fun _ q => absurd q.2.2 g2) Ef.refl
  rw [decide_eq_false (fun q => q g2), Bz_f] at b1
  cases g3 : M (48 * ny + nx) with
  | true =>
    rw [g3, Bz_t] at b2
    rw [k254_13]
    simp +decide (maxSteps := 4000000) (disch := omega) only [k254_0, k254_2, k254_4, k254_5, k254_6, k254_8, k254_9, k254_10, k254_11, k254_12, k254_13, k254_14, k254_16, k254_17, k254_r, k254_s, F_al0, F_il1, F_il4, T_I, F_is5i, F_is5r, F_is5m, T_ft, F_il5, T_icge, T_getR, T_bast, F_inc5i, F_inc5r, F_inc5m, T_goto, T_putI, T_putZ, F_il3, T_mul, F_il2, T_add, X_bald, J_ifne, T_iast, J_ifle, X_iald, F_is6i, F_is6r, F_is6m, F_il6, T_rem, F_is7i, F_is7r, F_is7m, T_div, F_is8i, F_is8r, F_is8m, T_dupI, T_dupR, T_getI, F_il7, J_ifeq, T_iceq, F_il8, J_icne, F_is9i, F_is9r, F_is9m, F_il9, F_is10i, F_is10r, F_is10m, F_is11i, F_is11r, F_is11m, F_il10, F_il11, F_inc9i, F_inc9r, F_inc9m, T_ret, c237, c255, ↓s237, FM F, hny, g1, b1, b2, ln_728, ln_729, true_or, or_true, TK, lt_run hn, le43, Int.le_refl, Int.lt_irrefl, Option.some.injEq, exists_eq_left', true_and, and_true, if_true, if_false, decide_eq_false_iff_not, decide_eq_true_eq, Nat.reduceAdd, Nat.reduceLeDiff, Nat.reduceLT, Int.reduceAdd, Int.reduceSub, Int.reduceMul, Int.reduceNeg, not_true_eq_false, not_false_eq_true]
    exact k h w M T C0 (fun _ q => q) (fun _ _ => g3) Ef.refl
  | false =>
    rw [g3, Bz_f] at b2
    have cf := cnt_f (S := M) (p := 48 * ny + nx) (by omega) g3
    have cd := cnt_r D
    rw [k254_13]
    simp +decide (maxSteps := 4000000) (disch := omega) only [k254_0, k254_2, k254_4, k254_5, k254_6, k254_8, k254_9, k254_10, k254_11, k254_12, k254_13, k254_14, k254_16, k254_17, k254_r, k254_s, F_al0, F_il1, F_il4, T_I, F_is5i, F_is5r, F_is5m, T_ft, F_il5, T_icge, T_getR, T_bast, F_inc5i, F_inc5r, F_inc5m, T_goto, T_putI, T_putZ, F_il3, T_mul, F_il2, T_add, X_bald, J_ifne, T_iast, J_ifle, X_iald, F_is6i, F_is6r, F_is6m, F_il6, T_rem, F_is7i, F_is7r, F_is7m, T_div, F_is8i, F_is8r, F_is8m, T_dupI, T_dupR, T_getI, F_il7, J_ifeq, T_iceq, F_il8, J_icne, F_is9i, F_is9r, F_is9m, F_il9, F_is10i, F_is10r, F_is10m, F_is11i, F_is11r, F_is11m, F_il10, F_il11, F_inc9i, F_inc9r, F_inc9m, T_ret, c237, c255, ↓s237, FM F, hny, g1, b1, b2, ln_728, ln_729, ln_730, true_or, or_true, bool_1, TK, lt_run hn, le43, Int.le_refl, Int.lt_irrefl, Option.some.injEq, exists_eq_left', true_and, and_true, if_true, if_false, decide_eq_false_iff_not, decide_eq_true_eq, Nat.reduceAdd, Nat.reduceLeDiff, Nat.reduceLT, Int.reduceAdd, Int.reduceSub, Int.reduceMul, Int.reduceNeg, not_true_eq_false, not_false_eq_true]
    exact k _ _ _ _ (C0.push (q := 48 * ny + nx) (by omega) g3 (hc g1 ⟨by omega, by omega, g2⟩)) (fun q h => setB_m h) (fun _ _ => setB_s _ _) (Ef.sA (Ef.sA Ef.refl (Or.inl rfl)) (Or.inr (Or.inl rfl)))
theorem RM.ef {S : Nat → Nat → Prop} (C : RM W s h w M D T o) (e : Ef S h h') (hs : ∀ a k, Scf a k → ¬ S a k) : RM W s h' w M D T o := by
  obtain ⟨⟨c1, c2⟩, c3, c4, c5⟩ := C
  refine ⟨⟨?_, ?_⟩, fun p p0 p1 => ?_, fun i i0 i1 => ?_, c5⟩
  · rw [e _ _ (hs _ _ (Or.inr (Or.inr ⟨rfl, Or.inl rfl⟩)))]
    exact c1
  · rw [e _ _ (hs _ _ (Or.inr (Or.inr ⟨rfl, Or.inr rfl⟩)))]
    exact c2
  · rw [e.g (hs _ _ (Or.inl rfl))]
    exact c3 p p0 p1
  · rw [e.g (hs _ _ (Or.inr (Or.inl rfl)))]
    exact c4 i i0 i1
def Scw (a k : Nat) : Prop := Scf a k ∨ Swl a k
/-- the four beside -/
theorem z254i (F : FH hr) (hn : 775 ≤ n) {v1 v2 v3 : Value} {p : Int} (PW : PB h 728 W) (cn : Cn W s p) (C : RM W s h w M D T o) (v10 v11 : Value)
    (k : ∀ h' w' M' T' v9 v10 v11, Ef Scf h h' → RM W s h' w' M' D T' o → (∀ q, M q = true → M' q = true) → (p % 48 ≠ 0 → fre W (p - 1) → M' (p - 1) = true) → (p % 48 ≠ 47 → fre W (p + 1) → M' (p + 1) = true) → (fre W (p - 48) → M' (p - 48) = true) → (fre W (p + 48) → M' (p + 48) = true) → Tm E 254 (a_bl 254 3) [.ref 704, v1, v2, v3, .int (J g), .int (J w'), .int (J p), .int (J (p % 48)), .int (J (p / 48)), v9, v10, v11] [] h' hr n Q) :
    Tm E 254 (a_bl 254 7) [.ref 704, v1, v2, v3, .int (J g), .int (J w), .int (J p), .int (J (p % 48)), .int (J (p / 48)), .int (J 0), v10, v11] [] h hr n Q := by
  have fr := cn.f
  have fr0 := fr.1
  have fr1 := fr.2.1
  refine T_for (σ := Int × (Int → Bool) × (Int → Int) × Value × Value) (fun i v => [.ref 704, v1, v2, v3, .int (J g), .int (J v.1), .int (J p), .int (J (p % 48)), .int (J (p / 48)), .int (J i), v.2.2.2.1, v.2.2.2.2]) (fun i v h' => Ef Scf h h' ∧ RM W s h' v.1 v.2.1 D v.2.2.1 o ∧ (∀ q, M q = true → v.2.1 q = true) ∧ (1 ≤ i → p % 48 ≠ 0 → fre W (p - 1) → v.2.1 (p - 1) = true) ∧ (2 ≤ i → p % 48 ≠ 47 → fre W (p + 1) → v.2.1 (p + 1) = true) ∧ (3 ≤ i → fre W (p - 48) → v.2.1 (p - 48) = true) ∧ (4 ≤ i → fre W (p + 48) → v.2.1 (p + 48) = true)) 0 4 ?_ ?_ 0 (w, M, T, v10, v11) h (by omega) (by omega) ⟨Ef.refl, C, fun _ q => q, fun q => by omega, fun q => by omega, fun q => by omega, fun q => by omega⟩
  · rintro i ⟨w2, M2, T2, v10, v11⟩ h2 i0 i1 ⟨e2, C2, m2, n0, n1, n2, n3⟩ ih2
    dsimp only at C2 m2 n0 n1 n2 n3 ⊢
    have PW2 := PW.ef e2 (fun k q => by unfold Scf at q; omega)
    rcases (show i = 0 ∨ i = 1 ∨ i = 2 ∨ i = 3 by omega) with rfl | rfl | rfl | rfl
    · rw [k254_7]
      simp +decide (maxSteps := 4000000) (disch := omega) only [k254_0, k254_2, k254_4, k254_5, k254_6, k254_8, k254_9, k254_10, k254_11, k254_12, k254_14, k254_15, k254_16, k254_17, k254_r, k254_s, F_al0, F_il1, F_il4, T_I, F_is5i, F_is5r, F_is5m, T_ft, F_il5, T_icge, T_getR, T_bast, F_inc5i, F_inc5r, F_inc5m, T_goto, T_putI, T_putZ, F_il3, T_mul, F_il2, T_add, X_bald, J_ifne, T_iast, J_ifle, X_iald, F_is6i, F_is6r, F_is6m, F_il6, T_rem, F_is7i, F_is7r, F_is7m, T_div, F_is8i, F_is8r, F_is8m, T_dupI, T_dupR, T_getI, F_il7, J_ifeq, T_iceq, F_il8, J_icne, F_is9i, F_is9r, F_is9m, F_il9, F_is10i, F_is10r, F_is10m, F_is11i, F_is11r, F_is11m, F_il10, F_il11, F_inc9i, F_inc9r, F_inc9m, T_ret, c237, c255, ↓s237, FM F, TK, lt_run hn, le43, Int.le_refl, Int.lt_irrefl, Option.some.injEq, exists_eq_left', true_and, and_true, if_true, if_false, decide_eq_false_iff_not, decide_eq_true_eq, Nat.reduceAdd, Nat.reduceLeDiff, Nat.reduceLT, Int.reduceAdd, Int.reduceSub, Int.reduceMul, Int.reduceNeg, not_true_eq_false, not_false_eq_true]
      refine z254n F hn (nx := p % 48 - 1) (by omega) (by omega) PW2 C2 (fun g h => ?_) (fun h3 w3 M3 T3 C3 m3 b3 e3 => ?_)
      · rw [show 48 * (p / 48 + 0) + (p % 48 - 1) = p - 1 by omega] at h ⊢
        exact cn.n (Or.inl ⟨rfl, by omega⟩) h
      · rw [show 48 * (p / 48 + 0) + (p % 48 - 1) = p - 1 by omega] at b3
        simp +decide (maxSteps := 4000000) (disch := omega) only [k254_0, k254_2, k254_4, k254_5, k254_6, k254_8, k254_9, k254_10, k254_11, k254_12, k254_13, k254_14, k254_15, k254_16, k254_17, k254_r, k254_s, F_al0, F_il1, F_il4, T_I, F_is5i, F_is5r, F_is5m, T_ft, F_il5, T_icge, T_getR, T_bast, F_inc5i, F_inc5r, F_inc5m, T_goto, T_putI, T_putZ, F_il3, T_mul, F_il2, T_add, X_bald, J_ifne, T_iast, J_ifle, X_iald, F_is6i, F_is6r, F_is6m, F_il6, T_rem, F_is7i, F_is7r, F_is7m, T_div, F_is8i, F_is8r, F_is8m, T_dupI, T_dupR, T_getI, F_il7, J_ifeq, T_iceq, F_il8, J_icne, F_is9i, F_is9r, F_is9m, F_il9, F_is10i, F_is10r, F_is10m, F_is11i, F_is11r, F_is11m, F_il10, F_il11, F_inc9i, F_inc9r, F_inc9m, T_ret, c237, c255, ↓s237, TK, lt_run hn, le43, Int.le_refl, Int.lt_irrefl, Option.some.injEq, exists_eq_left', true_and, and_true, if_true, if_false, decide_eq_false_iff_not, decide_eq_true_eq, Nat.reduceAdd, Nat.reduceLeDiff, Nat.reduceLT, Int.reduceAdd, Int.reduceSub, Int.reduceMul, Int.reduceNeg, not_true_eq_false, not_false_eq_true]
        exact ih2 (_, _, _, _, _) _ ⟨e2.trans e3, C3, fun q h => m3 q (m2 q h), fun _ a b => b3 (by omega) b, fun q => by omega, fun q => by omega, fun q => by omega⟩
    · rw [k254_7]
      simp +decide (maxSteps := 4000000) (disch := omega) only [k254_0, k254_2, k254_4, k254_5, k254_6, k254_8, k254_9, k254_10, k254_11, k254_12, k254_14, k254_15, k254_16, k254_17, k254_r, k254_s, F_al0, F_il1, F_il4, T_I, F_is5i, F_is5r, F_is5m, T_ft, F_il5, T_icge, T_getR, T_bast, F_inc5i, F_inc5r, F_inc5m, T_goto, T_putI, T_putZ, F_il3, T_mul, F_il2, T_add, X_bald, J_ifne, T_iast, J_ifle, X_iald, F_is6i, F_is6r, F_is6m, F_il6, T_rem, F_is7i, F_is7r, F_is7m, T_div, F_is8i, F_is8r, F_is8m, T_dupI, T_dupR, T_getI, F_il7, J_ifeq, T_iceq, F_il8, J_icne, F_is9i, F_is9r, F_is9m, F_il9, F_is10i, F_is10r, F_is10m, F_is11i, F_is11r, F_is11m, F_il10, F_il11, F_inc9i, F_inc9r, F_inc9m, T_ret, c237, c255, ↓s237, FM F, TK, lt_run hn, le43, Int.le_refl, Int.lt_irrefl, Option.some.injEq, exists_eq_left', true_and, and_true, if_true, if_false, decide_eq_false_iff_not, decide_eq_true_eq, Nat.reduceAdd, Nat.reduceLeDiff, Nat.reduceLT, Int.reduceAdd, Int.reduceSub, Int.reduceMul, Int.reduceNeg, not_true_eq_false, not_false_eq_true]
      refine z254n F hn (nx := p % 48 + 1) (by omega) (by omega) PW2 C2 (fun g h => ?_) (fun h3 w3 M3 T3 C3 m3 b3 e3 => ?_)
      · rw [show 48 * (p / 48 + 0) + (p % 48 + 1) = p + 1 by omega] at h ⊢
        exact cn.n (Or.inr (Or.inl ⟨rfl, by omega⟩)) h
      · rw [show 48 * (p / 48 + 0) + (p % 48 + 1) = p + 1 by omega] at b3
        simp +decide (maxSteps := 4000000) (disch := omega) only [k254_0, k254_2, k254_4, k254_5, k254_6, k254_8, k254_9, k254_10, k254_11, k254_12, k254_13, k254_14, k254_15, k254_16, k254_17, k254_r, k254_s, F_al0, F_il1, F_il4, T_I, F_is5i, F_is5r, F_is5m, T_ft, F_il5, T_icge, T_getR, T_bast, F_inc5i, F_inc5r, F_inc5m, T_goto, T_putI, T_putZ, F_il3, T_mul, F_il2, T_add, X_bald, J_ifne, T_iast, J_ifle, X_iald, F_is6i, F_is6r, F_is6m, F_il6, T_rem, F_is7i, F_is7r, F_is7m, T_div, F_is8i, F_is8r, F_is8m, T_dupI, T_dupR, T_getI, F_il7, J_ifeq, T_iceq, F_il8, J_icne, F_is9i, F_is9r, F_is9m, F_il9, F_is10i, F_is10r, F_is10m, F_is11i, F_is11r, F_is11m, F_il10, F_il11, F_inc9i, F_inc9r, F_inc9m, T_ret, c237, c255, ↓s237, TK, lt_run hn, le43, Int.le_refl, Int.lt_irrefl, Option.some.injEq, exists_eq_left', true_and, and_true, if_true, if_false, decide_eq_false_iff_not, decide_eq_true_eq, Nat.reduceAdd, Nat.reduceLeDiff, Nat.reduceLT, Int.reduceAdd, Int.reduceSub, Int.reduceMul, Int.reduceNeg, not_true_eq_false, not_false_eq_true]
        exact ih2 (_, _, _, _, _) _ ⟨e2.trans e3, C3, fun q h => m3 q (m2 q h), fun _ a b => m3 _ (n0 (by omega) a b), fun _ a b => b3 (by omega) b, fun q => by omega, fun q => by omega⟩
    · rw [k254_7]
      simp +decide (maxSteps := 4000000) (disch := omega) only [k254_0, k254_2, k254_4, k254_5, k254_6, k254_8, k254_9, k254_10, k254_11, k254_12, k254_14, k254_15, k254_16, k254_17, k254_r, k254_s, F_al0, F_il1, F_il4, T_I, F_is5i, F_is5r, F_is5m, T_ft, F_il5, T_icge, T_getR, T_bast, F_inc5i, F_inc5r, F_inc5m, T_goto, T_putI, T_putZ, F_il3, T_mul, F_il2, T_add, X_bald, J_ifne, T_iast, J_ifle, X_iald, F_is6i, F_is6r, F_is6m, F_il6, T_rem, F_is7i, F_is7r, F_is7m, T_div, F_is8i, F_is8r, F_is8m, T_dupI, T_dupR, T_getI, F_il7, J_ifeq, T_iceq, F_il8, J_icne, F_is9i, F_is9r, F_is9m, F_il9, F_is10i, F_is10r, F_is10m, F_is11i, F_is11r, F_is11m, F_il10, F_il11, F_inc9i, F_inc9r, F_inc9m, T_ret, c237, c255, ↓s237, FM F, TK, lt_run hn, le43, Int.le_refl, Int.lt_irrefl, Option.some.injEq, exists_eq_left', true_and, and_true, if_true, if_false, decide_eq_false_iff_not, decide_eq_true_eq, Nat.reduceAdd, Nat.reduceLeDiff, Nat.reduceLT, Int.reduceAdd, Int.reduceSub, Int.reduceMul, Int.reduceNeg, not_true_eq_false, not_false_eq_true]
      refine z254n F hn (nx := p % 48 + 0) (by omega) (by omega) PW2 C2 (fun g h => ?_) (fun h3 w3 M3 T3 C3 m3 b3 e3 => ?_)
      · rw [show 48 * (p / 48 + -1) + (p % 48 + 0) = p - 48 by omega] at h ⊢
        exact cn.n (Or.inr (Or.inr (Or.inl rfl))) h
      · rw [show 48 * (p / 48 + -1) + (p % 48 + 0) = p - 48 by omega] at b3
        simp +decide (maxSteps := 4000000) (disch := omega) only [k254_0, k254_2, k254_4, k254_5, k254_6, k254_8, k254_9, k254_10, k254_11, k254_12, k254_13, k254_14, k254_15, k254_16, k254_17, k254_r, k254_s, F_al0, F_il1, F_il4, T_I, F_is5i, F_is5r, F_is5m, T_ft, F_il5, T_icge, T_getR, T_bast, F_inc5i, F_inc5r, F_inc5m, T_goto, T_putI, T_putZ, F_il3, T_mul, F_il2, T_add, X_bald, J_ifne, T_iast, J_ifle, X_iald, F_is6i, F_is6r, F_is6m, F_il6, T_rem, F_is7i, F_is7r, F_is7m, T_div, F_is8i, F_is8r, F_is8m, T_dupI, T_dupR, T_getI, F_il7, J_ifeq, T_iceq, F_il8, J_icne, F_is9i, F_is9r, F_is9m, F_il9, F_is10i, F_is10r, F_is10m, F_is11i, F_is11r, F_is11m, F_il10, F_il11, F_inc9i, F_inc9r, F_inc9m, T_ret, c237, c255, ↓s237, TK, lt_run hn, le43, Int.le_refl, Int.lt_irrefl, Option.some.injEq, exists_eq_left', true_and, and_true, if_true, if_false, decide_eq_false_iff_not, decide_eq_true_eq, Nat.reduceAdd, Nat.reduceLeDiff, Nat.reduceLT, Int.reduceAdd, Int.reduceSub, Int.reduceMul, Int.reduceNeg, not_true_eq_false, not_false_eq_true]
        exact ih2 (_, _, _, _, _) _ ⟨e2.trans e3, C3, fun q h => m3 q (m2 q h), fun _ a b => m3 _ (n0 (by omega) a b), fun _ a b => m3 _ (n1 (by omega) a b), fun _ b => b3 (by have := b.1; omega) b, fun q => by omega⟩
    · rw [k254_7]
      simp +decide (maxSteps := 4000000) (disch := omega) only [k254_0, k254_2, k254_4, k254_5, k254_6, k254_8, k254_9, k254_10, k254_11, k254_12, k254_14, k254_15, k254_16, k254_17, k254_r, k254_s, F_al0, F_il1, F_il4, T_I, F_is5i, F_is5r, F_is5m, T_ft, F_il5, T_icge, T_getR, T_bast, F_inc5i, F_inc5r, F_inc5m, T_goto, T_putI, T_putZ, F_il3, T_mul, F_il2, T_add, X_bald, J_ifne, T_iast, J_ifle, X_iald, F_is6i, F_is6r, F_is6m, F_il6, T_rem, F_is7i, F_is7r, F_is7m, T_div, F_is8i, F_is8r, F_is8m, T_dupI, T_dupR, T_getI, F_il7, J_ifeq, T_iceq, F_il8, J_icne, F_is9i, F_is9r, F_is9m, F_il9, F_is10i, F_is10r, F_is10m, F_is11i, F_is11r, F_is11m, F_il10, F_il11, F_inc9i, F_inc9r, F_inc9m, T_ret, c237, c255, ↓s237, FM F, TK, lt_run hn, le43, Int.le_refl, Int.lt_irrefl, Option.some.injEq, exists_eq_left', true_and, and_true, if_true, if_false, decide_eq_false_iff_not, decide_eq_true_eq, Nat.reduceAdd, Nat.reduceLeDiff, Nat.reduceLT, Int.reduceAdd, Int.reduceSub, Int.reduceMul, Int.reduceNeg, not_true_eq_false, not_false_eq_true]
      refine z254n F hn (nx := p % 48 + 0) (by omega) (by omega) PW2 C2 (fun g h => ?_) (fun h3 w3 M3 T3 C3 m3 b3 e3 => ?_)
      · rw [show 48 * (p / 48 + 1) + (p % 48 + 0) = p + 48 by omega] at h ⊢
        exact cn.n (Or.inr (Or.inr (Or.inr rfl))) h
      · rw [show 48 * (p / 48 + 1) + (p % 48 + 0) = p + 48 by omega] at b3
        simp +decide (maxSteps := 4000000) (disch := omega) only [k254_0, k254_2, k254_4, k254_5, k254_6, k254_8, k254_9, k254_10, k254_11, k254_12, k254_13, k254_14, k254_15, k254_16, k254_17, k254_r, k254_s, F_al0, F_il1, F_il4, T_I, F_is5i, F_is5r, F_is5m, T_ft, F_il5, T_icge, T_getR, T_bast, F_inc5i, F_inc5r, F_inc5m, T_goto, T_putI, T_putZ, F_il3, T_mul, F_il2, T_add, X_bald, J_ifne, T_iast, J_ifle, X_iald, F_is6i, F_is6r, F_is6m, F_il6, T_rem, F_is7i, F_is7r, F_is7m, T_div, F_is8i, F_is8r, F_is8m, T_dupI, T_dupR, T_getI, F_il7, J_ifeq, T_iceq, F_il8, J_icne, F_is9i, F_is9r, F_is9m, F_il9, F_is10i, F_is10r, F_is10m, F_is11i, F_is11r, F_is11m, F_il10, F_il11, F_inc9i, F_inc9r, F_inc9m, T_ret, c237, c255, ↓s237, TK, lt_run hn, le43, Int.le_refl, Int.lt_irrefl, Option.some.injEq, exists_eq_left', true_and, and_true, if_true, if_false, decide_eq_false_iff_not, decide_eq_true_eq, Nat.reduceAdd, Nat.reduceLeDiff, Nat.reduceLT, Int.reduceAdd, Int.reduceSub, Int.reduceMul, Int.reduceNeg, not_true_eq_false, not_false_eq_true]
        exact ih2 (_, _, _, _, _) _ ⟨e2.trans e3, C3, fun q h => m3 q (m2 q h), fun _ a b => m3 _ (n0 (by omega) a b), fun _ a b => m3 _ (n1 (by omega) a b), fun _ b => m3 _ (n2 (by omega) b), fun _ b => b3 (by have := b.2.1; omega) b⟩
  · rintro ⟨w2, M2, T2, v10, v11⟩ h2 ⟨e2, C2, m2, n0, n1, n2, n3⟩
    dsimp only at C2 m2 n0 n1 n2 n3 ⊢
    rw [k254_7]
    simp +decide (maxSteps := 4000000) (disch := omega) only [k254_0, k254_2, k254_4, k254_5, k254_6, k254_8, k254_9, k254_10, k254_11, k254_12, k254_13, k254_14, k254_15, k254_16, k254_17, k254_r, k254_s, F_al0, F_il1, F_il4, T_I, F_is5i, F_is5r, F_is5m, T_ft, F_il5, T_icge, T_getR, T_bast, F_inc5i, F_inc5r, F_inc5m, T_goto, T_putI, T_putZ, F_il3, T_mul, F_il2, T_add, X_bald, J_ifne, T_iast, J_ifle, X_iald, F_is6i, F_is6r, F_is6m, F_il6, T_rem, F_is7i, F_is7r, F_is7m, T_div, F_is8i, F_is8r, F_is8m, T_dupI, T_dupR, T_getI, F_il7, J_ifeq, T_iceq, F_il8, J_icne, F_is9i, F_is9r, F_is9m, F_il9, F_is10i, F_is10r, F_is10m, F_is11i, F_is11r, F_is11m, F_il10, F_il11, F_inc9i, F_inc9r, F_inc9m, T_ret, c237, c255, ↓s237, FM F, TK, lt_run hn, le43, Int.le_refl, Int.lt_irrefl, Option.some.injEq, exists_eq_left', true_and, and_true, if_true, if_false, decide_eq_false_iff_not, decide_eq_true_eq, Nat.reduceAdd, Nat.reduceLeDiff, Nat.reduceLT, Int.reduceAdd, Int.reduceSub, Int.reduceMul, Int.reduceNeg, not_true_eq_false, not_false_eq_true]
    exact k h2 w2 M2 T2 _ _ _ e2 C2 m2 (n0 (by omega)) (n1 (by omega)) (n2 (by omega)) (n3 (by omega))
set_option maxHeartbeats 4000000 in
/-- the loop -/
theorem z254 (F : FH hr) (hn : 775 ≤ n) {v1 v2 v3 : Value} (PW : PB h 728 W) (hW : ∀ q, 0 ≤ W q ∧ W q ≤ 15) (C : RM W s h w M D T o) (hD : ∀ p, D p = true → ∀ q, adj p q → fre W q → M q = true) (hs : fre W s → M s = true) (v6 v7 v8 v9 v10 v11 : Value)
    (k : ∀ h' M o, (h' 704 36 = J (cnt M) ∧ h' 704 37 = Bz o) → (∀ q, 0 ≤ q → q < 1536 → gA h' 729 q = Bz (M q)) → (∀ p, M p = true ↔ Cn W s p) → (o = true ↔ ∃ p, M p = true ∧ bdr p = true) → Ef Scf h h' → Q (none, h', hr, n)) :
    Tm E 254 (a_bl 254 3) [.ref 704, v1, v2, v3, .int (J g), .int (J w), v6, v7, v8, v9, v10, v11] [] h hr n Q := by
  refine T_wh (σ := Int × (Int → Bool) × (Int → Bool) × (Int → Int) × Bool × Value × Value × Value × Value × Value × Value) (fun v => [.ref 704, v1, v2, v3, .int (J g), .int (J v.1), v.2.2.2.2.2.1, v.2.2.2.2.2.2.1, v.2.2.2.2.2.2.2.1, v.2.2.2.2.2.2.2.2.1, v.2.2.2.2.2.2.2.2.2.1, v.2.2.2.2.2.2.2.2.2.2]) (fun v h' => Ef Scf h h' ∧ RM W s h' v.1 v.2.1 v.2.2.1 v.2.2.2.1 v.2.2.2.2.1 ∧ (∀ p, v.2.2.1 p = true → ∀ q, adj p q → fre W q → v.2.1 q = true) ∧ (fre W s → v.2.1 s = true)) (fun v _ => (1536 - cnt v.2.2.1).toNat) ?_ (w, M, D, T, o, v6, v7, v8, v9, v10, v11) h ⟨Ef.refl, C, hD, hs⟩
  rintro ⟨w, M, D, T, o, v6, v7, v8, v9, v10, v11⟩ h1 ⟨e1, C1, hD1, hs1⟩ ih
  dsimp only at C1 hD1 hs1 ⊢
  have C0 := C1
  obtain ⟨⟨c1, c2⟩, c3, c4, c5, c6, c7, c8, c9⟩ := C1
  have cm := cnt_r M
  have cd := cnt_r D
  by_cases g1 : w ≤ 0
  · have MD : ∀ p, M p = D p := fun p => by
      cases e : M p with
      | false =>
        cases e2 : D p with
        | false => rfl
        | true =>
          have := c8 p e2
          rw [e] at this
          cases this
      | true =>
        obtain ⟨_, d | ⟨i, i0, i1, i2⟩⟩ := c7 p e
        · exact d.symm
        · omega
    have MD2 : M = D := funext MD
    rw [k254_3]
    simp +decide (maxSteps := 4000000) (disch := omega) only [k254_0, k254_2, k254_4, k254_5, k254_6, k254_8, k254_9, k254_10, k254_11, k254_12, k254_13, k254_14, k254_15, k254_16, k254_17, k254_r, k254_s, F_al0, F_il1, F_il4, T_I, F_is5i, F_is5r, F_is5m, T_ft, F_il5, T_icge, T_getR, T_bast, F_inc5i, F_inc5r, F_inc5m, T_goto, T_putI, T_putZ, F_il3, T_mul, F_il2, T_add, X_bald, J_ifne, T_iast, J_ifle, X_iald, F_is6i, F_is6r, F_is6m, F_il6, T_rem, F_is7i, F_is7r, F_is7m, T_div, F_is8i, F_is8r, F_is8m, T_dupI, T_dupR, T_getI, F_il7, J_ifeq, T_iceq, F_il8, J_icne, F_is9i, F_is9r, F_is9m, F_il9, F_is10i, F_is10r, F_is10m, F_is11i, F_is11r, F_is11m, F_il10, F_il11, F_inc9i, F_inc9r, F_inc9m, T_ret, c237, c255, ↓s237, FM F, g1, TK, lt_run hn, le43, Int.le_refl, Int.lt_irrefl, Option.some.injEq, exists_eq_left', true_and, and_true, if_true, if_false, decide_eq_false_iff_not, decide_eq_true_eq, Nat.reduceAdd, Nat.reduceLeDiff, Nat.reduceLT, Int.reduceAdd, Int.reduceSub, Int.reduceMul, Int.reduceNeg, not_true_eq_false, not_false_eq_true]
    refine k h1 M o ⟨by rw [MD2]; exact c1, c2⟩ c3 (fun p => ⟨fun q => (c7 p q).1, fun q => ?_⟩) (by rw [MD2]; exact c9) e1
    exact q (fun p => M p = true) hs1 (fun p q hp ha hq => hD1 p (by rw [← MD2]; exact hp) q ha hq)
  obtain ⟨d1, d2, d3⟩ := c4 (w - 1) (by omega) (by omega)
  obtain ⟨cn, _⟩ := c7 _ d2
  have fr := cn.f
  have P2 := C0.pop (by omega)
  have cs := cnt_set (p := T (w - 1)) ⟨fr.1, fr.2.1⟩ d3
  generalize T (w - 1) = p at *
  have fr0 := fr.1
  have fr1 := fr.2.1
  have e2 : ∀ v : Int32, hI h1 704 36 v 704 37 = Bz o := fun v => by rw [hI_k (by decide)]; exact c2
  have e1' : Ef Scf h (hI (hI h1 704 36 (J (cnt D + 1))) 704 37 (Bz (o || bdr p))) := Ef.hI (Ef.hI e1 (Or.inr (Or.inr ⟨rfl, Or.inl rfl⟩))) (Or.inr (Or.inr ⟨rfl, Or.inr rfl⟩))
  have go : Tm E 254 (a_bl 254 7) [.ref 704, v1, v2, v3, .int (J g), .int (J (w - 1)), .int (J p), .int (J (p % 48)), .int (J (p / 48)), .int (J 0), v10, v11] [] (hI (hI h1 704 36 (J (cnt D + 1))) 704 37 (Bz (o || bdr p))) hr n Q := by
    refine z254i F hn (PW.ef e1' (fun k q => by unfold Scf at q; omega)) cn P2 _ _ (fun h2 w2 M2 T2 v9 v10 v11 e2 C2 m2 n0 n1 n2 n3 => ?_)
    refine ih (w2, M2, setB D p, T2, o || bdr p, _, _, _, _, _, _) h2 ⟨e1'.trans e2, C2, fun q hq r ha hf => ?_, fun q => m2 _ (hs1 q)⟩ ?_
    · dsimp only at hq ⊢
      by_cases e : q = p
      · rw [e] at ha
        rcases ha with ⟨q1, q2⟩ | ⟨q1, q2⟩ | q1 | q1
        · rw [q1] at hf ⊢
          exact n0 q2 hf
        · rw [q1] at hf ⊢
          exact n1 q2 hf
        · rw [q1] at hf ⊢
          exact n2 hf
        · rw [q1] at hf ⊢
          exact n3 hf
      · rw [setB_o e] at hq
        exact m2 _ (hD1 q hq r ha hf)
    · dsimp only
      omega
  have bd : bdr p = true ↔ (p % 48 = 0 ∨ p % 48 = 47 ∨ p / 48 = 0 ∨ p / 48 = 31) := by
    unfold bdr
    rw [decide_eq_true_eq]
    omega
  have gT : (o = true ∨ (p % 48 = 0 ∨ p % 48 = 47 ∨ p / 48 = 0 ∨ p / 48 = 31)) → (o || bdr p) = true := fun q => by
    rw [Bool.or_eq_true, bd]
    exact q
  cases ob : o with
  | true =>
    rw [ob] at e2 go
    have e3 : (true || bdr p) = true := rfl
    rw [e3, Bz_t] at go
    rw [Bz_t] at e2
    rw [k254_3]
    simp +decide (maxSteps := 4000000) (disch := omega) only [k254_0, k254_2, k254_4, k254_5, k254_6, k254_8, k254_9, k254_10, k254_11, k254_12, k254_13, k254_14, k254_15, k254_16, k254_17, k254_r, k254_s, F_al0, F_il1, F_il4, T_I, F_is5i, F_is5r, F_is5m, T_ft, F_il5, T_icge, T_getR, T_bast, F_inc5i, F_inc5r, F_inc5m, T_goto, T_putI, T_putZ, F_il3, T_mul, F_il2, T_add, X_bald, J_ifne, T_iast, J_ifle, X_iald, F_is6i, F_is6r, F_is6m, F_il6, T_rem, F_is7i, F_is7r, F_is7m, T_div, F_is8i, F_is8r, F_is8m, T_dupI, T_dupR, T_getI, F_il7, J_ifeq, T_iceq, F_il8, J_icne, F_is9i, F_is9r, F_is9m, F_il9, F_is10i, F_is10r, F_is10m, F_is11i, F_is11r, F_is11m, F_il10, F_il11, F_inc9i, F_inc9r, F_inc9m, T_ret, c237, c255, ↓s237, FM F, show w + -1 = w - 1 by omega, c1, e2, d1, g1, ln_730, J_remp, J_divp, jz1, TK, lt_run hn, le43, Int.le_refl, Int.lt_irrefl, Option.some.injEq, exists_eq_left', true_and, and_true, if_true, if_false, decide_eq_false_iff_not, decide_eq_true_eq, Nat.reduceAdd, Nat.reduceLeDiff, Nat.reduceLT, Int.reduceAdd, Int.reduceSub, Int.reduceMul, Int.reduceNeg, not_true_eq_false, not_false_eq_true]
    exact go
  | false =>
    rw [ob] at e2 go gT
    rw [Bz_f] at e2
    by_cases b1 : p % 48 = 0
    · rw [gT (by omega), Bz_t] at go
      rw [k254_3]
      simp +decide (maxSteps := 4000000) (disch := omega) only [k254_0, k254_2, k254_4, k254_5, k254_6, k254_8, k254_9, k254_10, k254_11, k254_12, k254_13, k254_14, k254_15, k254_16, k254_17, k254_r, k254_s, F_al0, F_il1, F_il4, T_I, F_is5i, F_is5r, F_is5m, T_ft, F_il5, T_icge, T_getR, T_bast, F_inc5i, F_inc5r, F_inc5m, T_goto, T_putI, T_putZ, F_il3, T_mul, F_il2, T_add, X_bald, J_ifne, T_iast, J_ifle, X_iald, F_is6i, F_is6r, F_is6m, F_il6, T_rem, F_is7i, F_is7r, F_is7m, T_div, F_is8i, F_is8r, F_is8m, T_dupI, T_dupR, T_getI, F_il7, J_ifeq, T_iceq, F_il8, J_icne, F_is9i, F_is9r, F_is9m, F_il9, F_is10i, F_is10r, F_is10m, F_is11i, F_is11r, F_is11m, F_il10, F_il11, F_inc9i, F_inc9r, F_inc9m, T_ret, c237, c255, ↓s237, FM F, show w + -1 = w - 1 by omega, c1, e2, d1, g1, ln_730, J_remp, J_divp, jz1, b1, TK, lt_run hn, le43, Int.le_refl, Int.lt_irrefl, Option.some.injEq, exists_eq_left', true_and, and_true, if_true, if_false, decide_eq_false_iff_not, decide_eq_true_eq, Nat.reduceAdd, Nat.reduceLeDiff, Nat.reduceLT, Int.reduceAdd, Int.reduceSub, Int.reduceMul, Int.reduceNeg, not_true_eq_false, not_false_eq_true]
      rw [b1] at go
      exact go
    by_cases b2 : p % 48 = 47
    · rw [gT (by omega), Bz_t] at go
      rw [k254_3]
      simp +decide (maxSteps := 4000000) (disch := omega) only [k254_0, k254_2, k254_4, k254_5, k254_6, k254_8, k254_9, k254_10, k254_11, k254_12, k254_13, k254_14, k254_15, k254_16, k254_17, k254_r, k254_s, F_al0, F_il1, F_il4, T_I, F_is5i, F_is5r, F_is5m, T_ft, F_il5, T_icge, T_getR, T_bast, F_inc5i, F_inc5r, F_inc5m, T_goto, T_putI, T_putZ, F_il3, T_mul, F_il2, T_add, X_bald, J_ifne, T_iast, J_ifle, X_iald, F_is6i, F_is6r, F_is6m, F_il6, T_rem, F_is7i, F_is7r, F_is7m, T_div, F_is8i, F_is8r, F_is8m, T_dupI, T_dupR, T_getI, F_il7, J_ifeq, T_iceq, F_il8, J_icne, F_is9i, F_is9r, F_is9m, F_il9, F_is10i, F_is10r, F_is10m, F_is11i, F_is11r, F_is11m, F_il10, F_il11, F_inc9i, F_inc9r, F_inc9m, T_ret, c237, c255, ↓s237, FM F, show w + -1 = w - 1 by omega, c1, e2, d1, g1, ln_730, J_remp, J_divp, jz1, b2, TK, lt_run hn, le43, Int.le_refl, Int.lt_irrefl, Option.some.injEq, exists_eq_left', true_and, and_true, if_true, if_false, decide_eq_false_iff_not, decide_eq_true_eq, Nat.reduceAdd, Nat.reduceLeDiff, Nat.reduceLT, Int.reduceAdd, Int.reduceSub, Int.reduceMul, Int.reduceNeg, not_true_eq_false, not_false_eq_true]
      rw [b2] at go
      exact go
    by_cases b3 : p / 48 = 0
    · rw [gT (by omega), Bz_t] at go
      rw [k254_3]
      simp +decide (maxSteps := 4000000) (disch := omega) only [k254_0, k254_2, k254_4, k254_5, k254_6, k254_8, k254_9, k254_10, k254_11, k254_12, k254_13, k254_14, k254_15, k254_16, k254_17, k254_r, k254_s, F_al0, F_il1, F_il4, T_I, F_is5i, F_is5r, F_is5m, T_ft, F_il5, T_icge, T_getR, T_bast, F_inc5i, F_inc5r, F_inc5m, T_goto, T_putI, T_putZ, F_il3, T_mul, F_il2, T_add, X_bald, J_ifne, T_iast, J_ifle, X_iald, F_is6i, F_is6r, F_is6m, F_il6, T_rem, F_is7i, F_is7r, F_is7m, T_div, F_is8i, F_is8r, F_is8m, T_dupI, T_dupR, T_getI, F_il7, J_ifeq, T_iceq, F_il8, J_icne, F_is9i, F_is9r, F_is9m, F_il9, F_is10i, F_is10r, F_is10m, F_is11i, F_is11r, F_is11m, F_il10, F_il11, F_inc9i, F_inc9r, F_inc9m, T_ret, c237, c255, ↓s237, FM F, show w + -1 = w - 1 by omega, c1, e2, d1, g1, ln_730, J_remp, J_divp, jz1, b1, b2, b3, TK, lt_run hn, le43, Int.le_refl, Int.lt_irrefl, Option.some.injEq, exists_eq_left', true_and, and_true, if_true, if_false, decide_eq_false_iff_not, decide_eq_true_eq, Nat.reduceAdd, Nat.reduceLeDiff, Nat.reduceLT, Int.reduceAdd, Int.reduceSub, Int.reduceMul, Int.reduceNeg, not_true_eq_false, not_false_eq_true]
      rw [b3] at go
      exact go
    by_cases b4 : p / 48 = 31
    · rw [gT (by omega), Bz_t] at go
      rw [k254_3]
      simp +decide (maxSteps := 4000000) (disch := omega) only [k254_0, k254_2, k254_4, k254_5, k254_6, k254_8, k254_9, k254_10, k254_11, k254_12, k254_13, k254_14, k254_15, k254_16, k254_17, k254_r, k254_s, F_al0, F_il1, F_il4, T_I, F_is5i, F_is5r, F_is5m, T_ft, F_il5, T_icge, T_getR, T_bast, F_inc5i, F_inc5r, F_inc5m, T_goto, T_putI, T_putZ, F_il3, T_mul, F_il2, T_add, X_bald, J_ifne, T_iast, J_ifle, X_iald, F_is6i, F_is6r, F_is6m, F_il6, T_rem, F_is7i, F_is7r, F_is7m, T_div, F_is8i, F_is8r, F_is8m, T_dupI, T_dupR, T_getI, F_il7, J_ifeq, T_iceq, F_il8, J_icne, F_is9i, F_is9r, F_is9m, F_il9, F_is10i, F_is10r, F_is10m, F_is11i, F_is11r, F_is11m, F_il10, F_il11, F_inc9i, F_inc9r, F_inc9m, T_ret, c237, c255, ↓s237, FM F, show w + -1 = w - 1 by omega, c1, e2, d1, g1, ln_730, J_remp, J_divp, jz1, b1, b2, b3, b4, TK, lt_run hn, le43, Int.le_refl, Int.lt_irrefl, Option.some.injEq, exists_eq_left', true_and, and_true, if_true, if_false, decide_eq_false_iff_not, decide_eq_true_eq, Nat.reduceAdd, Nat.reduceLeDiff, Nat.reduceLT, Int.reduceAdd, Int.reduceSub, Int.reduceMul, Int.reduceNeg, not_true_eq_false, not_false_eq_true]
      rw [b4] at go
      exact go
    · have e3 : (false || bdr p) = false := by
        rw [Bool.false_or]
        cases q : bdr p with
        | false => rfl
        | true =>
          have := bd.mp q
          omega
      rw [e3, Bz_f] at go
      rw [k254_3]
      simp +decide (maxSteps := 4000000) (disch := omega) only [k254_0, k254_2, k254_4, k254_5, k254_6, k254_8, k254_9, k254_10, k254_11, k254_12, k254_13, k254_14, k254_15, k254_16, k254_17, k254_r, k254_s, F_al0, F_il1, F_il4, T_I, F_is5i, F_is5r, F_is5m, T_ft, F_il5, T_icge, T_getR, T_bast, F_inc5i, F_inc5r, F_inc5m, T_goto, T_putI, T_putZ, F_il3, T_mul, F_il2, T_add, X_bald, J_ifne, T_iast, J_ifle, X_iald, F_is6i, F_is6r, F_is6m, F_il6, T_rem, F_is7i, F_is7r, F_is7m, T_div, F_is8i, F_is8r, F_is8m, T_dupI, T_dupR, T_getI, F_il7, J_ifeq, T_iceq, F_il8, J_icne, F_is9i, F_is9r, F_is9m, F_il9, F_is10i, F_is10r, F_is10m, F_is11i, F_is11r, F_is11m, F_il10, F_il11, F_inc9i, F_inc9r, F_inc9m, T_ret, c237, c255, ↓s237, FM F, show w + -1 = w - 1 by omega, c1, e2, d1, g1, ln_730, J_remp, J_divp, jz0, b1, b2, b3, b4, TK, lt_run hn, le43, Int.le_refl, Int.lt_irrefl, Option.some.injEq, exists_eq_left', true_and, and_true, if_true, if_false, decide_eq_false_iff_not, decide_eq_true_eq, Nat.reduceAdd, Nat.reduceLeDiff, Nat.reduceLT, Int.reduceAdd, Int.reduceSub, Int.reduceMul, Int.reduceNeg, not_true_eq_false, not_false_eq_true]
      exact go
theorem w254 (F : FH hr) (hn : 775 ≤ n) {d x y : Int} {D D' : Drw} (hd : 0 ≤ d ∧ d < 16) (hx : 0 ≤ x ∧ x ≤ 47) (hy : 0 ≤ y ∧ y ≤ 31) (R : DRr D) (R' : DRr D') (hm : D'.1 = D.1) (hp : ∀ i, (D'.2 i).2.1 = (D.2 i).2.1) (Mm : DM h d D) (X : WX h D.1 D') (hg : 0 ≤ g ∧ g ≤ 8) (P : PA h 726 f) (hf : ∀ q, 0 ≤ f q ∧ f q ≤ 15) (hl : l = endD D' D.1.toNat)
    (k : ∀ h' M o, (h' 704 36 = J (cnt M) ∧ h' 704 37 = Bz o) → (∀ q, 0 ≤ q → q < 1536 → gA h' 729 q = Bz (M q)) → (∀ p, M p = true ↔ Cn (wlI f l g l.length) (48 * y + x) p) → (o = true ↔ ∃ p, M p = true ∧ bdr p = true) → Ef Scw h h' → Q (none, h', hr, n)) : Sp E 254 [.ref 704, .int (J d), .int (J x), .int (J y), .int (J g)] h hr n Q := by
  simp +decide (maxSteps := 4000000) (disch := omega) only [k254_0, k254_2, k254_4, k254_5, k254_6, k254_8, k254_9, k254_10, k254_11, k254_12, k254_13, k254_14, k254_15, k254_16, k254_17, k254_r, k254_s, F_al0, F_il1, F_il4, T_I, F_is5i, F_is5r, F_is5m, T_ft, F_il5, T_icge, T_getR, T_bast, F_inc5i, F_inc5r, F_inc5m, T_goto, T_putI, T_putZ, F_il3, T_mul, F_il2, T_add, X_bald, J_ifne, T_iast, J_ifle, X_iald, F_is6i, F_is6r, F_is6m, F_il6, T_rem, F_is7i, F_is7r, F_is7m, T_div, F_is8i, F_is8r, F_is8m, T_dupI, T_dupR, T_getI, F_il7, J_ifeq, T_iceq, F_il8, J_icne, F_is9i, F_is9r, F_is9m, F_il9, F_is10i, F_is10r, F_is10m, F_is11i, F_is11r, F_is11m, F_il10, F_il11, F_inc9i, F_inc9r, F_inc9m, T_ret, c237, c255, ↓s237, FM F, TK, lt_run hn, le43, Int.le_refl, Int.lt_irrefl, Option.some.injEq, exists_eq_left', true_and, and_true, if_true, if_false, decide_eq_false_iff_not, decide_eq_true_eq, Nat.reduceAdd, Nat.reduceLeDiff, Nat.reduceLT, Int.reduceAdd, Int.reduceSub, Int.reduceMul, Int.reduceNeg, not_true_eq_false, not_false_eq_true]
  refine w255 F hn hd R R' hm hp Mm X hg P hf (fun h1 P1 e1 => ?_)
  rw [← hl] at P1
  have hW := wlI_r (l := l) (g := g) hf l.length
  generalize wlI f l g l.length = W at *
  simp +decide (maxSteps := 4000000) (disch := omega) only [k254_0, k254_2, k254_4, k254_5, k254_6, k254_8, k254_9, k254_10, k254_11, k254_12, k254_13, k254_14, k254_15, k254_16, k254_17, k254_r, k254_s, F_al0, F_il1, F_il4, T_I, F_is5i, F_is5r, F_is5m, T_ft, F_il5, T_icge, T_getR, T_bast, F_inc5i, F_inc5r, F_inc5m, T_goto, T_putI, T_putZ, F_il3, T_mul, F_il2, T_add, X_bald, J_ifne, T_iast, J_ifle, X_iald, F_is6i, F_is6r, F_is6m, F_il6, T_rem, F_is7i, F_is7r, F_is7m, T_div, F_is8i, F_is8r, F_is8m, T_dupI, T_dupR, T_getI, F_il7, J_ifeq, T_iceq, F_il8, J_icne, F_is9i, F_is9r, F_is9m, F_il9, F_is10i, F_is10r, F_is10m, F_is11i, F_is11r, F_is11m, F_il10, F_il11, F_inc9i, F_inc9r, F_inc9m, T_ret, c237, c255, ↓s237, FM F, TK, lt_run hn, le43, Int.le_refl, Int.lt_irrefl, Option.some.injEq, exists_eq_left', true_and, and_true, if_true, if_false, decide_eq_false_iff_not, decide_eq_true_eq, Nat.reduceAdd, Nat.reduceLeDiff, Nat.reduceLT, Int.reduceAdd, Int.reduceSub, Int.reduceMul, Int.reduceNeg, not_true_eq_false, not_false_eq_true]
  refine T_for (σ := Unit) (fun q _ => [.ref 704, .int (J d), .int (J x), .int (J y), .int (J g), .int (J q), a_mk, a_mk, a_mk, a_mk, a_mk, a_mk]) (fun q _ h' => Ef (fun a _ => a = 729) h1 h' ∧ ∀ p, 0 ≤ p → p < q → gA h' 729 p = J 0) 0 1536 ?_ ?_ 0 () h1 (by omega) (by omega) ⟨Ef.refl, fun p _ _ => by omega⟩
  · rintro q _ h2 q0 q1 ⟨e2, c2⟩ ih
    rw [k254_1]
    simp +decide (maxSteps := 4000000) (disch := omega) only [k254_0, k254_2, k254_4, k254_5, k254_6, k254_8, k254_9, k254_10, k254_11, k254_12, k254_13, k254_14, k254_15, k254_16, k254_17, k254_r, k254_s, F_al0, F_il1, F_il4, T_I, F_is5i, F_is5r, F_is5m, T_ft, F_il5, T_icge, T_getR, T_bast, F_inc5i, F_inc5r, F_inc5m, T_goto, T_putI, T_putZ, F_il3, T_mul, F_il2, T_add, X_bald, J_ifne, T_iast, J_ifle, X_iald, F_is6i, F_is6r, F_is6m, F_il6, T_rem, F_is7i, F_is7r, F_is7m, T_div, F_is8i, F_is8r, F_is8m, T_dupI, T_dupR, T_getI, F_il7, J_ifeq, T_iceq, F_il8, J_icne, F_is9i, F_is9r, F_is9m, F_il9, F_is10i, F_is10r, F_is10m, F_is11i, F_is11r, F_is11m, F_il10, F_il11, F_inc9i, F_inc9r, F_inc9m, T_ret, c237, c255, ↓s237, FM F, ln_729, true_or, or_true, bool_0, show ¬ 1536 ≤ q by omega, TK, lt_run hn, le43, Int.le_refl, Int.lt_irrefl, Option.some.injEq, exists_eq_left', true_and, and_true, if_true, if_false, decide_eq_false_iff_not, decide_eq_true_eq, Nat.reduceAdd, Nat.reduceLeDiff, Nat.reduceLT, Int.reduceAdd, Int.reduceSub, Int.reduceMul, Int.reduceNeg, not_true_eq_false, not_false_eq_true]
    refine ih () _ ⟨e2.sA rfl, fun p p0 p1 => ?_⟩
    by_cases e : p = q
    · rw [e, gs_s]
    · rw [gs_k q0 p0 e]
      exact c2 p p0 (by omega)
  rintro _ h2 ⟨e2, c2⟩
  have PW := P1.ef e2 (fun k => by decide)
  have C2 : RM W (48 * y + x) (hI (hI h2 704 36 (J 0)) 704 37 (J 0)) 0 (fun _ => false) (fun _ => false) (fun _ => 0) false := by
    refine ⟨⟨?_, hI_s⟩, fun q q0 q1 => ?_, fun i _ _ => by omega, fun i j _ _ _ => by omega, ⟨by omega, by omega⟩, fun p q => (by cases q), fun p q => q, ⟨fun q => (by cases q), fun ⟨p, q, _⟩ => (by cases q)⟩⟩
    · rw [hI_k (by decide), hI_s, cnt_0]
    · rw [gA_o (by decide), gA_o (by decide)]
      exact c2 q q0 q1
  have e3 : Ef Scw h (hI (hI h2 704 36 (J 0)) 704 37 (J 0)) := Ef.hI (Ef.hI ((e1.mono fun a k q => Or.inr q).trans (e2.mono fun a k q => Or.inl (Or.inl q))) (Or.inl (Or.inr (Or.inr ⟨rfl, Or.inl rfl⟩)))) (Or.inl (Or.inr (Or.inr ⟨rfl, Or.inr rfl⟩)))
  have PW3 : PB (hI (hI h2 704 36 (J 0)) 704 37 (J 0)) 728 W := PW.ef (S := fun a k => a = 704) (Ef.hI (Ef.hI Ef.refl rfl) rfl) (fun k => by decide)
  have b1 := PW3 (48 * y + x) (by omega) (by omega)
  by_cases g2 : W (48 * y + x) = 0
  · rw [decide_eq_false (fun q => q g2), Bz_f] at b1
    rw [k254_1]
    simp +decide (maxSteps := 4000000) (disch := omega) only [k254_0, k254_2, k254_4, k254_5, k254_6, k254_8, k254_9, k254_10, k254_11, k254_12, k254_13, k254_14, k254_15, k254_16, k254_17, k254_r, k254_s, F_al0, F_il1, F_il4, T_I, F_is5i, F_is5r, F_is5m, T_ft, F_il5, T_icge, T_getR, T_bast, F_inc5i, F_inc5r, F_inc5m, T_goto, T_putI, T_putZ, F_il3, T_mul, F_il2, T_add, X_bald, J_ifne, T_iast, J_ifle, X_iald, F_is6i, F_is6r, F_is6m, F_il6, T_rem, F_is7i, F_is7r, F_is7m, T_div, F_is8i, F_is8r, F_is8m, T_dupI, T_dupR, T_getI, F_il7, J_ifeq, T_iceq, F_il8, J_icne, F_is9i, F_is9r, F_is9m, F_il9, F_is10i, F_is10r, F_is10m, F_is11i, F_is11r, F_is11m, F_il10, F_il11, F_inc9i, F_inc9r, F_inc9m, T_ret, c237, c255, ↓s237, FM F, ln_728, ln_729, ln_730, b1, true_or, or_true, bool_1, jz0, TK, lt_run hn, le43, Int.le_refl, Int.lt_irrefl, Option.some.injEq, exists_eq_left', true_and, and_true, if_true, if_false, decide_eq_false_iff_not, decide_eq_true_eq, Nat.reduceAdd, Nat.reduceLeDiff, Nat.reduceLT, Int.reduceAdd, Int.reduceSub, Int.reduceMul, Int.reduceNeg, not_true_eq_false, not_false_eq_true]
    have C4 := C2.push (q := 48 * y + x) (by omega) rfl (Cn.s ⟨by omega, by omega, g2⟩)
    have e4 : Ef Scf (hI (hI h2 704 36 (J 0)) 704 37 (J 0)) (sA (sA (hI (hI h2 704 36 (J 0)) 704 37 (J 0)) 729 (48 * y + x) (J 1)) 730 0 (J (48 * y + x))) := Ef.sA (Ef.sA Ef.refl (Or.inl rfl)) (Or.inr (Or.inl rfl))
    exact z254 F hn (PW3.ef e4 (fun k q => by unfold Scf at q; omega)) hW C4 (fun p q => (by cases q)) (fun _ => setB_s _ _) _ _ _ _ _ _ (fun h5 M o a1 a2 a3 a4 a5 => k h5 M o a1 a2 a3 a4 (e3.trans ((e4.trans a5).mono fun a k q => Or.inl q)))
  · rw [decide_eq_true g2, Bz_t] at b1
    rw [k254_1]
    simp +decide (maxSteps := 4000000) (disch := omega) only [k254_0, k254_2, k254_4, k254_5, k254_6, k254_8, k254_9, k254_10, k254_11, k254_12, k254_13, k254_14, k254_15, k254_16, k254_17, k254_r, k254_s, F_al0, F_il1, F_il4, T_I, F_is5i, F_is5r, F_is5m, T_ft, F_il5, T_icge, T_getR, T_bast, F_inc5i, F_inc5r, F_inc5m, T_goto, T_putI, T_putZ, F_il3, T_mul, F_il2, T_add, X_bald, J_ifne, T_iast, J_ifle, X_iald, F_is6i, F_is6r, F_is6m, F_il6, T_rem, F_is7i, F_is7r, F_is7m, T_div, F_is8i, F_is8r, F_is8m, T_dupI, T_dupR, T_getI, F_il7, J_ifeq, T_iceq, F_il8, J_icne, F_is9i, F_is9r, F_is9m, F_il9, F_is10i, F_is10r, F_is10m, F_is11i, F_is11r, F_is11m, F_il10, F_il11, F_inc9i, F_inc9r, F_inc9m, T_ret, c237, c255, ↓s237, FM F, ln_728, b1, true_or, or_true, jz0, TK, lt_run hn, le43, Int.le_refl, Int.lt_irrefl, Option.some.injEq, exists_eq_left', true_and, and_true, if_true, if_false, decide_eq_false_iff_not, decide_eq_true_eq, Nat.reduceAdd, Nat.reduceLeDiff, Nat.reduceLT, Int.reduceAdd, Int.reduceSub, Int.reduceMul, Int.reduceNeg, not_true_eq_false, not_false_eq_true]
    exact z254 F hn PW3 hW C2 (fun p q => (by cases q)) (fun q => absurd q.2.2 g2) _ _ _ _ _ _ (fun h5 M o a1 a2 a3 a4 a5 => k h5 M o a1 a2 a3 a4 (e3.trans (a5.mono fun a k q => Or.inl q)))
end FM
