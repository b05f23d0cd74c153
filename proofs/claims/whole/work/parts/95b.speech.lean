/-! speech: reading -/
abbrev Spl := List (Int × Int)
def LPq (h : AHi) (a c : Nat) (L : Spl) : Prop := ∀ (i : Nat) x, L[i]? = some x → gA h a (i : Int) = J x.1 ∧ gA h c (i : Int) = J x.2
def lsm : Spl → Int
  | [] => 0
  | x :: xs => x.2 + lsm xs
def Lg (L : Spl) (tot : Int) : Prop := (∀ x ∈ L, (0 ≤ x.1 ∧ x.1 ≤ 7) ∧ 1 ≤ x.2) ∧ lsm L = tot ∧ tot ≤ 120
theorem lsm_a (L M : Spl) : lsm (L ++ M) = lsm L + lsm M := by
  induction L with
  | nil => show lsm M = 0 + lsm M; omega
  | cons x L ih =>
    show x.2 + lsm (L ++ M) = x.2 + lsm L + lsm M
    rw [ih]
    omega
theorem lsm_l : ∀ (L : Spl), (∀ x ∈ L, (0 ≤ x.1 ∧ x.1 ≤ 7) ∧ 1 ≤ x.2) → (L.length : Int) ≤ lsm L := by
  intro L
  induction L with
  | nil => intro _; show ((0 : Nat) : Int) ≤ 0; omega
  | cons x L ih =>
    intro h
    have h1 := h x List.mem_cons_self
    have h2 := ih (fun y q => h y (List.mem_cons_of_mem x q))
    show ((L.length + 1 : Nat) : Int) ≤ x.2 + lsm L
    omega
theorem Lg_len {L : Spl} {tot : Int} (h : Lg L tot) : (L.length : Int) ≤ tot ∧ tot ≤ 120 := by
  have := lsm_l L h.1
  have := h.2
  omega
theorem Lg_a {L : Spl} {tot v k : Int} (h : Lg L tot) (hv : 0 ≤ v ∧ v ≤ 7) (hk : 1 ≤ k) (ht : tot + k ≤ 120) : Lg (L ++ [(v, k)]) (tot + k) := by
  refine ⟨fun x q => ?_, ?_, ht⟩
  · rcases List.mem_append.mp q with q | q
    · exact h.1 x q
    · rw [List.mem_singleton.mp q]
      exact ⟨hv, hk⟩
  · rw [lsm_a, h.2.1]
    show tot + (k + 0) = tot + k
    omega
theorem Lg_0 : Lg [] 0 := ⟨fun x q => absurd q List.not_mem_nil, rfl, by decide⟩
theorem LPq_0 {h : AHi} {a c : Nat} : LPq h a c [] := fun i x q => by rw [List.getElem?_nil] at q; exact absurd q (by simp only [reduceCtorEq, not_false_eq_true])
theorem LPq_a {h : AHi} {a c : Nat} {L : Spl} {v k : Int} (P : LPq h a c L) (hac : a ≠ c) : LPq (sA (sA h a (L.length : Int) (J v)) c (L.length : Int) (J k)) a c (L ++ [(v, k)]) := fun i x q => by
  by_cases g : i < L.length
  · rw [List.getElem?_append_left g] at q
    rw [gs_o hac, gs_k (by omega) (by omega) (by omega), gs_k (by omega) (by omega) (by omega), gs_o (Ne.symm hac)]
    exact P i x q
  · rw [List.getElem?_append_right (by omega)] at q
    by_cases g2 : i = L.length
    · subst g2
      rw [Nat.sub_self] at q
      have e : (v, k) = x := Option.some.inj q
      rw [← e, gs_o hac, gs_s, gs_s]
      exact ⟨rfl, rfl⟩
    · rw [List.getElem?_eq_none (show [(v, k)].length ≤ i - L.length by show 1 ≤ i - L.length; omega)] at q
      exact absurd q (by simp only [reduceCtorEq, not_false_eq_true])
theorem LPq.ef {S : Nat → Nat → Prop} {h h' : AHi} {a c : Nat} {L : Spl} (P : LPq h a c L) (e : Ef S h h') (h1 : ∀ k, ¬ S a k) (h2 : ∀ k, ¬ S c k) : LPq h' a c L := fun i x q => by
  rw [e.g (h1 _), e.g (h2 _)]
  exact P i x q
/-- the mouth of a sound -/
def sdv (b : Int → Int) (t : Int) (V : Int → Int) (p : Int) : Int := if bt b t p = 46 then 0 else V (bt b t p - 97)
def sps (b : Int → Int) (t : Int) (V : Int → Int) : Nat → Int → Int → Spl → Int × Spl
  | 0, _, _, L => (0, L)
  | q + 1, tot, p, L => if bt b t p = 46 ∨ smb (bt b t p) then (if (numC b t 1 99 (p + 1) (-1)).2.2 = -1 then (if tot + (numC b t 1 99 (p + 1) (-1)).1 ≤ 120 then (if t ≤ (numC b t 1 99 (p + 1) (-1)).2.1 then (-1, L ++ [(sdv b t V p, (numC b t 1 99 (p + 1) (-1)).1)]) else if bt b t (numC b t 1 99 (p + 1) (-1)).2.1 = 32 then sps b t V q (tot + (numC b t 1 99 (p + 1) (-1)).1) ((numC b t 1 99 (p + 1) (-1)).2.1 + 1) (L ++ [(sdv b t V p, (numC b t 1 99 (p + 1) (-1)).1)]) else ((numC b t 1 99 (p + 1) (-1)).2.1, L)) else (p, L)) else ((numC b t 1 99 (p + 1) (-1)).2.2, L)) else (p, L)
section SP
variable {E : AEn} {h h' : AHi} {hr : AHr} {n : Nat} {Q : ARs → Prop} {t p f m k w e : Int} {b V : Int → Int}
theorem sdv_b (hV : R7 V) : 0 ≤ sdv b t V p ∧ sdv b t V p ≤ 7 := by
  unfold sdv
  split
  · omega
  · exact hV _
theorem sps_b (ht : 0 ≤ t ∧ t ≤ 1600) (hb : ∀ i, 0 ≤ b i ∧ b i ≤ 255) (hV : R7 V) : ∀ (q : Nat) (tot p : Int) (L : Spl), (L.length : Int) + q = 121 → 0 ≤ p → p ≤ t → Lg L tot → ((sps b t V q tot p L).1 = -1 ∨ 0 ≤ (sps b t V q tot p L).1 ∧ (sps b t V q tot p L).1 ≤ 1700) ∧ ((sps b t V q tot p L).1 = -1 → ∃ s, Lg (sps b t V q tot p L).2 s ∧ 0 < (sps b t V q tot p L).2.length) := by
  intro q
  induction q with
  | zero => intro tot p L q0 p0 p1 G; have := Lg_len G; omega
  | succ q ih =>
    intro tot p L q0 p0 p1 G
    have nb := num_b (t := t) (f := -1) hb ht 1 99 (p := p + 1) (by omega) (Or.inl rfl)
    have nr := (num_rel (b := b) (t := t) hb (lo := 1) (hi := 99) (p := p + 1) (by omega)).2
    have sb := sdv_b (b := b) (t := t) (p := p) hV
    unfold sps
    generalize numC b t 1 99 (p + 1) (-1) = r at *
    by_cases g0 : bt b t p = 46 ∨ smb (bt b t p)
    case neg =>
      rw [if_neg g0]
      exact ⟨Or.inr (by dsimp only; omega), fun z => by dsimp only at z; omega⟩
    rw [if_pos g0]
    by_cases g : r.2.2 = -1
    case neg =>
      rw [if_neg g]
      exact ⟨nb.2.1, fun z => absurd z g⟩
    obtain ⟨_, u1, u2, u3⟩ := nr g
    rw [if_pos g]
    by_cases g1 : tot + r.1 ≤ 120
    case neg =>
      rw [if_neg g1]
      exact ⟨Or.inr (by dsimp only; omega), fun z => by dsimp only at z; omega⟩
    rw [if_pos g1]
    have G2 := Lg_a (v := sdv b t V p) (k := r.1) G sb (by omega) g1
    by_cases g2 : t ≤ r.2.1
    · rw [if_pos g2]
      refine ⟨Or.inl rfl, fun _ => ⟨_, G2, ?_⟩⟩
      show 0 < (L ++ [(sdv b t V p, r.1)]).length
      rw [List.length_append]
      exact Nat.succ_pos _
    · rw [if_neg g2]
      by_cases g3 : bt b t r.2.1 = 32
      · rw [if_pos g3]
        exact ih _ _ _ (by rw [List.length_append]; show ((L.length + 1 : Nat) : Int) + q = 121; omega) (by omega) (by omega) G2
      · rw [if_neg g3]
        exact ⟨Or.inr (by dsimp only; omega), fun z => by dsimp only at z; omega⟩
theorem w72 (F : FH hr) (hn : 775 ≤ n) (T : TpC h t b) (R : Rk h 106 26 V) (hp : 0 ≤ p ∧ p ≤ 1650) (k1 : bt b t p = 46 ∨ smb (bt b t p) → Q (some (.int (J (sdv b t V p))), RS h (p + 1) (-1), hr, n)) (k2 : ¬ (bt b t p = 46 ∨ smb (bt b t p)) → Q (some (.int (J 0)), RS h p p, hr, n)) : Sp E 72 [.ref 105, .ref 44] (RS h p (-1)) hr n Q := by
  have bk := bt_r (t := t) T.2.1 p
  unfold sdv at k1
  by_cases g : bt b t p = 46
  · rw [if_pos g] at k1
    simp +decide (maxSteps := 4000000) (disch := omega) only [k72_0, k72_1, k72_2, k72_3, k72_r, k72_s, F_al1, T_I, J_ifeq, T_ret, J_ifne, T_ft, T_getI, F_al0, T_getR, T_sub, X_iald, F_is2i, F_is2r, F_is2m, T_dupI, T_dupR, T_add, T_putI, T_putZ, F_il2, c16, c17, c18, c19, c23, ↓s16, ↓s17, ↓s18, ↓s19, RX, ↓s23 F hn T, g, kd_44, ↓reduceIte, TK, lt_run hn, le43, Int.le_refl, Int.lt_irrefl, Option.some.injEq, exists_eq_left', true_and, and_true, if_true, if_false, decide_eq_false_iff_not, decide_eq_true_eq, Nat.reduceAdd, Nat.reduceLeDiff, Nat.reduceLT, Int.reduceAdd, Int.reduceSub, Int.reduceMul, Int.reduceNeg, not_true_eq_false, not_false_eq_true]
    exact k1 (Or.inl g)
  rw [if_neg g] at k1
  by_cases g2 : smb (bt b t p)
  · have g' : 97 ≤ bt b t p ∧ bt b t p ≤ 122 := g2
    have d1 : gA (RS h p (-1)) 106 (bt b t p - 97) = J (V (bt b t p - 97)) := by
      rw [RS_g (by decide)]
      exact R _ (by omega) (by omega)
    simp +decide (maxSteps := 4000000) (disch := omega) only [k72_0, k72_1, k72_2, k72_3, k72_r, k72_s, F_al1, T_I, J_ifeq, T_ret, J_ifne, T_ft, T_getI, F_al0, T_getR, T_sub, X_iald, F_is2i, F_is2r, F_is2m, T_dupI, T_dupR, T_add, T_putI, T_putZ, F_il2, c16, c17, c18, c19, c23, ↓s18, FX F, RX, ↓s16 F hn, ↓s17 F hn T, ↓s19 F hn T, ↓s23 F hn T, g, g', d1, kd_44, kd_105, kd_106, ln_106, ↓reduceIte, TK, lt_run hn, le43, Int.le_refl, Int.lt_irrefl, Option.some.injEq, exists_eq_left', true_and, and_true, if_true, if_false, decide_eq_false_iff_not, decide_eq_true_eq, Nat.reduceAdd, Nat.reduceLeDiff, Nat.reduceLT, Int.reduceAdd, Int.reduceSub, Int.reduceMul, Int.reduceNeg, not_true_eq_false, not_false_eq_true]
    exact k1 (Or.inr g2)
  · have g' : ¬ (97 ≤ bt b t p ∧ bt b t p ≤ 122) := g2
    simp +decide (maxSteps := 4000000) (disch := omega) only [k72_0, k72_1, k72_2, k72_3, k72_r, k72_s, F_al1, T_I, J_ifeq, T_ret, J_ifne, T_ft, T_getI, F_al0, T_getR, T_sub, X_iald, F_is2i, F_is2r, F_is2m, T_dupI, T_dupR, T_add, T_putI, T_putZ, F_il2, c16, c17, c18, c19, c23, ↓s19, RX, ↓s16 F hn, ↓s17 F hn T, ↓s18 F hn, ↓s23 F hn T, g, g', rf_y, kd_44, ↓reduceIte, TK, lt_run hn, le43, Int.le_refl, Int.lt_irrefl, Option.some.injEq, exists_eq_left', true_and, and_true, if_true, if_false, decide_eq_false_iff_not, decide_eq_true_eq, Nat.reduceAdd, Nat.reduceLeDiff, Nat.reduceLT, Int.reduceAdd, Int.reduceSub, Int.reduceMul, Int.reduceNeg, not_true_eq_false, not_false_eq_true]
    exact k2 (fun z => z.elim g g2)
theorem z71 (F : FH hr) (hn : 775 ≤ n) (hV : R7 V) : ∀ (q : Nat) (tot p : Int) (L : Spl) (h : AHi) (v6 v7 v8 : Value), (L.length : Int) + q = 121 → 0 ≤ p → p ≤ t → Lg L tot → TpC h t b → Rk h 106 26 V → LPq h 110 111 L →
    (∀ h' p' m' (v3 v4 v5 : Int32) (v6 v7 v8 : Value), 0 ≤ p' → p' ≤ 1700 → Ef (fun a _ => a = 110 ∨ a = 111) h h' → ((sps b t V q tot p L).1 = -1 → m' = ((sps b t V q tot p L).2.length : Int) ∧ LPq h' 110 111 (sps b t V q tot p L).2) → Tm E 71 (a_bl 71 4) [.ref 105, .ref 44, .int (J m'), .int v3, .int v4, .int v5, v6, v7, v8] [] (RS h' p' (sps b t V q tot p L).1) hr n Q) →
    Tm E 71 (a_bl 71 1) [.ref 105, .ref 44, .int (J L.length), .int (J tot), .int (J 1), .int (J L.length), v6, v7, v8] [] (RS h p (-1)) hr n Q := by
  intro q
  induction q with
  | zero => intro tot p L h v6 v7 v8 q0 p0 p1 G; have := Lg_len G; omega
  | succ q ih =>
    intro tot p L h v6 v7 v8 q0 p0 p1 G T R P kk
    have t1 := T.1
    have ll := Lg_len G
    have nb := num_b (t := t) (f := -1) T.2.1 T.1 1 99 (p := p + 1) (by omega) (Or.inl rfl)
    have nr := (num_rel (b := b) (t := t) T.2.1 (lo := 1) (hi := 99) (p := p + 1) (by omega)).2
    have sb := sdv_b (b := b) (t := t) (p := p) hV
    unfold sps at kk
    /- a fault, from block 3 -/
    have bad : ∀ (w f : Int) (x7 : Int32) (v3 : Int32) (v8 : Value), 0 ≤ w → w ≤ 1700 → 0 ≤ f → f ≤ 1700 → (∀ (v3 v4 v5 : Int32) (v6 v7 v8 : Value), Tm E 71 (a_bl 71 4) [.ref 105, .ref 44, .int (J L.length), .int v3, .int v4, .int v5, v6, v7, v8] [] (RS h w f) hr n Q) → Tm E 71 (a_bl 71 2) [.ref 105, .ref 44, .int (J L.length), .int v3, .int (J 1), .int (J L.length), .int (J p), .int x7, v8] [] (RS h w f) hr n Q := fun w f x7 v3 v8 w0 w1 f0 f1 q => by
      have f2 : f ≠ -1 := by omega
      rw [k71_2]
      simp +decide (maxSteps := 4000000) (disch := omega) only [k71_0, k71_2, k71_3, k71_4, k71_5, k71_r, k71_s, F_al1, T_I, F_is2i, F_is2r, F_is2m, F_is3i, F_is3r, F_is3m, F_is4i, F_is4r, F_is4m, F_is5i, F_is5r, F_is5m, T_ft, F_il4, J_ifeq, F_il5, T_icge, T_getI, F_is6i, F_is6r, F_is6m, F_al0, F_is7i, F_is7r, F_is7m, F_is8i, F_is8r, F_is8m, F_il3, F_il8, T_add, T_icle, F_il6, T_getR, F_il2, F_il7, T_iast, F_inc2i, F_inc2r, F_inc2m, F_inc5i, F_inc5r, F_inc5m, T_goto, J_ifne, T_ret, J_cp, T_putI, T_putZ, c13, c14, c16, c18, c20, c24, c72, c73, ↓s13, ↓s14, ↓s18, ↓s24, ↓s16 F hn, ↓s20 F hn T, f2, false_and, kd_44, ↓reduceIte, TK, lt_run hn, le43, Int.le_refl, Int.lt_irrefl, Option.some.injEq, exists_eq_left', true_and, and_true, if_true, if_false, decide_eq_false_iff_not, decide_eq_true_eq, Nat.reduceAdd, Nat.reduceLeDiff, Nat.reduceLT, Int.reduceAdd, Int.reduceSub, Int.reduceMul, Int.reduceNeg, not_true_eq_false, not_false_eq_true]
      rw [k71_1]
      simp +decide (maxSteps := 4000000) (disch := omega) only [k71_0, k71_2, k71_3, k71_5, k71_r, k71_s, F_al1, T_I, F_is2i, F_is2r, F_is2m, F_is3i, F_is3r, F_is3m, F_is4i, F_is4r, F_is4m, F_is5i, F_is5r, F_is5m, T_ft, F_il4, J_ifeq, F_il5, T_icge, T_getI, F_is6i, F_is6r, F_is6m, F_al0, F_is7i, F_is7r, F_is7m, F_is8i, F_is8r, F_is8m, F_il3, F_il8, T_add, T_icle, F_il6, T_getR, F_il2, F_il7, T_iast, F_inc2i, F_inc2r, F_inc2m, F_inc5i, F_inc5r, F_inc5m, T_goto, J_ifne, T_ret, J_cp, T_putI, T_putZ, c13, c14, c16, c18, c20, c24, c72, c73, ↓s13, ↓s14, ↓s16, ↓s18, ↓s20, ↓s24, ↓reduceIte, TK, lt_run hn, le43, Int.le_refl, Int.lt_irrefl, Option.some.injEq, exists_eq_left', true_and, and_true, if_true, if_false, decide_eq_false_iff_not, decide_eq_true_eq, Nat.reduceAdd, Nat.reduceLeDiff, Nat.reduceLT, Int.reduceAdd, Int.reduceSub, Int.reduceMul, Int.reduceNeg, not_true_eq_false, not_false_eq_true]
      exact q _ _ _ _ _ _
    rw [k71_1]
    simp +decide (maxSteps := 4000000) (disch := omega) only [k71_0, k71_2, k71_3, k71_5, k71_r, k71_s, F_al1, T_I, F_is2i, F_is2r, F_is2m, F_is3i, F_is3r, F_is3m, F_is4i, F_is4r, F_is4m, F_is5i, F_is5r, F_is5m, T_ft, F_il4, J_ifeq, F_il5, T_icge, T_getI, F_is6i, F_is6r, F_is6m, F_al0, F_is7i, F_is7r, F_is7m, F_is8i, F_is8r, F_is8m, F_il3, F_il8, T_add, T_icle, F_il6, T_getR, F_il2, F_il7, T_iast, F_inc2i, F_inc2r, F_inc2m, F_inc5i, F_inc5r, F_inc5m, T_goto, J_ifne, T_ret, J_cp, T_putI, T_putZ, c13, c14, c16, c18, c20, c24, c72, c73, ↓s13, ↓s14, ↓s16, ↓s18, ↓s20, ↓s24, FX F, RX, kd_44, kd_105, show ¬ 121 ≤ (L.length : Int) by omega, ↓reduceIte, TK, lt_run hn, le43, Int.le_refl, Int.lt_irrefl, Option.some.injEq, exists_eq_left', true_and, and_true, if_true, if_false, decide_eq_false_iff_not, decide_eq_true_eq, Nat.reduceAdd, Nat.reduceLeDiff, Nat.reduceLT, Int.reduceAdd, Int.reduceSub, Int.reduceMul, Int.reduceNeg, not_true_eq_false, not_false_eq_true]
    refine w72 F hn T R (by omega) (fun g0 => ?_) (fun g0 => ?_)
    case refine_2 =>
      rw [if_neg g0] at kk
      have f1 : p ≠ -1 := by omega
      have nf : numC b t 1 99 p p = (0, p, p) := num_F f1 (by decide)
      have fin := fun v3 v4 v5 v6 v7 v8 => kk h p L.length v3 v4 v5 v6 v7 v8 p0 (by omega) Ef.refl (fun z => absurd z f1)
      by_cases z : tot + 0 ≤ 120
      · simp +decide (maxSteps := 4000000) (disch := omega) only [k71_0, k71_3, k71_4, k71_5, k71_r, k71_s, F_al1, T_I, F_is2i, F_is2r, F_is2m, F_is3i, F_is3r, F_is3m, F_is4i, F_is4r, F_is4m, F_is5i, F_is5r, F_is5m, T_ft, F_il4, J_ifeq, F_il5, T_icge, T_getI, F_is6i, F_is6r, F_is6m, F_al0, F_is7i, F_is7r, F_is7m, F_is8i, F_is8r, F_is8m, F_il3, F_il8, T_add, T_icle, F_il6, T_getR, F_il2, F_il7, T_iast, F_inc2i, F_inc2r, F_inc2m, F_inc5i, F_inc5r, F_inc5m, T_goto, J_ifne, T_ret, J_cp, T_putI, T_putZ, c13, c14, c16, c18, c20, c24, c72, c73, ↓s13, ↓s16, ↓s18, ↓s20, ↓s24, ↓s14 F hn T, nf, z, kd_44, ↓reduceIte, TK, lt_run hn, le43, Int.le_refl, Int.lt_irrefl, Option.some.injEq, exists_eq_left', true_and, and_true, if_true, if_false, decide_eq_false_iff_not, decide_eq_true_eq, Nat.reduceAdd, Nat.reduceLeDiff, Nat.reduceLT, Int.reduceAdd, Int.reduceSub, Int.reduceMul, Int.reduceNeg, not_true_eq_false, not_false_eq_true]
        exact bad _ _ _ _ _ (by omega) (by omega) (by omega) (by omega) fin
      · omega
    rw [if_pos g0] at kk
    by_cases g : (numC b t 1 99 (p + 1) (-1)).2.2 = -1
    case neg =>
      rw [if_neg g] at kk
      have f2 := nb.2.1.resolve_left g
      have fin := fun v3 v4 v5 v6 v7 v8 => kk h (numC b t 1 99 (p + 1) (-1)).2.1 L.length v3 v4 v5 v6 v7 v8 (by omega) (by omega) Ef.refl (fun z => absurd z g)
      by_cases z : tot + (numC b t 1 99 (p + 1) (-1)).1 ≤ 120
      · simp +decide (maxSteps := 4000000) (disch := omega) only [k71_0, k71_3, k71_4, k71_5, k71_r, k71_s, F_al1, T_I, F_is2i, F_is2r, F_is2m, F_is3i, F_is3r, F_is3m, F_is4i, F_is4r, F_is4m, F_is5i, F_is5r, F_is5m, T_ft, F_il4, J_ifeq, F_il5, T_icge, T_getI, F_is6i, F_is6r, F_is6m, F_al0, F_is7i, F_is7r, F_is7m, F_is8i, F_is8r, F_is8m, F_il3, F_il8, T_add, T_icle, F_il6, T_getR, F_il2, F_il7, T_iast, F_inc2i, F_inc2r, F_inc2m, F_inc5i, F_inc5r, F_inc5m, T_goto, J_ifne, T_ret, J_cp, T_putI, T_putZ, c13, c14, c16, c18, c20, c24, c72, c73, ↓s13, ↓s16, ↓s18, ↓s20, ↓s24, ↓s14 F hn T, z, kd_44, ↓reduceIte, TK, lt_run hn, le43, Int.le_refl, Int.lt_irrefl, Option.some.injEq, exists_eq_left', true_and, and_true, if_true, if_false, decide_eq_false_iff_not, decide_eq_true_eq, Nat.reduceAdd, Nat.reduceLeDiff, Nat.reduceLT, Int.reduceAdd, Int.reduceSub, Int.reduceMul, Int.reduceNeg, not_true_eq_false, not_false_eq_true]
        exact bad _ _ _ _ _ (by omega) (by omega) f2.1 f2.2 fin
      · simp +decide (maxSteps := 4000000) (disch := omega) only [k71_0, k71_3, k71_4, k71_5, k71_r, k71_s, F_al1, T_I, F_is2i, F_is2r, F_is2m, F_is3i, F_is3r, F_is3m, F_is4i, F_is4r, F_is4m, F_is5i, F_is5r, F_is5m, T_ft, F_il4, J_ifeq, F_il5, T_icge, T_getI, F_is6i, F_is6r, F_is6m, F_al0, F_is7i, F_is7r, F_is7m, F_is8i, F_is8r, F_is8m, F_il3, F_il8, T_add, T_icle, F_il6, T_getR, F_il2, F_il7, T_iast, F_inc2i, F_inc2r, F_inc2m, F_inc5i, F_inc5r, F_inc5m, T_goto, J_ifne, T_ret, J_cp, T_putI, T_putZ, c13, c14, c16, c18, c20, c24, c72, c73, ↓s13, ↓s16, ↓s20, ↓s24, ↓s14 F hn T, ↓s18 F hn, rf_n g, z, kd_44, ↓reduceIte, TK, lt_run hn, le43, Int.le_refl, Int.lt_irrefl, Option.some.injEq, exists_eq_left', true_and, and_true, if_true, if_false, decide_eq_false_iff_not, decide_eq_true_eq, Nat.reduceAdd, Nat.reduceLeDiff, Nat.reduceLT, Int.reduceAdd, Int.reduceSub, Int.reduceMul, Int.reduceNeg, not_true_eq_false, not_false_eq_true]
        exact bad _ _ _ _ _ (by omega) (by omega) f2.1 f2.2 fin
    obtain ⟨_, u1, u2, u3⟩ := nr g
    rw [if_pos g] at kk
    by_cases g1 : tot + (numC b t 1 99 (p + 1) (-1)).1 ≤ 120
    case neg =>
      rw [if_neg g1] at kk
      have f1 : p ≠ -1 := by omega
      have fin := fun v3 v4 v5 v6 v7 v8 => kk h (numC b t 1 99 (p + 1) (-1)).2.1 L.length v3 v4 v5 v6 v7 v8 (by omega) (by omega) Ef.refl (fun z => absurd z f1)
      simp +decide (maxSteps := 4000000) (disch := omega) only [k71_0, k71_3, k71_4, k71_5, k71_r, k71_s, F_al1, T_I, F_is2i, F_is2r, F_is2m, F_is3i, F_is3r, F_is3m, F_is4i, F_is4r, F_is4m, F_is5i, F_is5r, F_is5m, T_ft, F_il4, J_ifeq, F_il5, T_icge, T_getI, F_is6i, F_is6r, F_is6m, F_al0, F_is7i, F_is7r, F_is7m, F_is8i, F_is8r, F_is8m, F_il3, F_il8, T_add, T_icle, F_il6, T_getR, F_il2, F_il7, T_iast, F_inc2i, F_inc2r, F_inc2m, F_inc5i, F_inc5r, F_inc5m, T_goto, J_ifne, T_ret, J_cp, T_putI, T_putZ, c13, c14, c16, c18, c20, c24, c72, c73, ↓s13, ↓s16, ↓s20, ↓s24, ↓s14 F hn T, ↓s18 F hn, rf_y, g, g1, kd_44, ↓reduceIte, TK, lt_run hn, le43, Int.le_refl, Int.lt_irrefl, Option.some.injEq, exists_eq_left', true_and, and_true, if_true, if_false, decide_eq_false_iff_not, decide_eq_true_eq, Nat.reduceAdd, Nat.reduceLeDiff, Nat.reduceLT, Int.reduceAdd, Int.reduceSub, Int.reduceMul, Int.reduceNeg, not_true_eq_false, not_false_eq_true]
      exact bad _ _ _ _ _ (by omega) (by omega) (by omega) (by omega) fin
    rw [if_pos g1] at kk
    have G2 := Lg_a (v := sdv b t V p) (k := (numC b t 1 99 (p + 1) (-1)).1) G sb (by omega) g1
    have e1 : Ef (fun a _ => a = 110 ∨ a = 111) h (sA (sA h 110 (L.length : Int) (J (sdv b t V p))) 111 (L.length : Int) (J (numC b t 1 99 (p + 1) (-1)).1)) := Ef.sA (Ef.sA Ef.refl (Or.inl rfl)) (Or.inr rfl)
    have T1 := T.ef e1 (by decide) (fun k => by omega)
    have P1 := LPq_a (v := sdv b t V p) (k := (numC b t 1 99 (p + 1) (-1)).1) P (by decide)
    have R1 : Rk (sA (sA h 110 (L.length : Int) (J (sdv b t V p))) 111 (L.length : Int) (J (numC b t 1 99 (p + 1) (-1)).1)) 106 26 V := fun j j0 j1 => by
      rw [gs_o (by decide), gs_o (by decide)]
      exact R j j0 j1
    have eL : ((L ++ [(sdv b t V p, (numC b t 1 99 (p + 1) (-1)).1)]).length : Int) = L.length + 1 := by
      rw [List.length_append]
      rfl
    simp +decide (maxSteps := 4000000) (disch := omega) only [k71_0, k71_2, k71_4, k71_5, k71_r, k71_s, F_al1, T_I, F_is2i, F_is2r, F_is2m, F_is3i, F_is3r, F_is3m, F_is4i, F_is4r, F_is4m, F_is5i, F_is5r, F_is5m, T_ft, F_il4, J_ifeq, F_il5, T_icge, T_getI, F_is6i, F_is6r, F_is6m, F_al0, F_is7i, F_is7r, F_is7m, F_is8i, F_is8r, F_is8m, F_il3, F_il8, T_add, T_icle, F_il6, T_getR, F_il2, F_il7, T_iast, F_inc2i, F_inc2r, F_inc2m, F_inc5i, F_inc5r, F_inc5m, T_goto, J_ifne, T_ret, J_cp, T_putI, T_putZ, c13, c14, c16, c18, c20, c24, c72, c73, ↓s13, ↓s18, ↓s20, ↓s24, FX F, ↓s14 F hn T, ↓s16 F hn, g, g1, kd_44, kd_105, kd_110, kd_111, ln_110, ln_111, ↓reduceIte, TK, lt_run hn, le43, Int.le_refl, Int.lt_irrefl, Option.some.injEq, exists_eq_left', true_and, and_true, if_true, if_false, decide_eq_false_iff_not, decide_eq_true_eq, Nat.reduceAdd, Nat.reduceLeDiff, Nat.reduceLT, Int.reduceAdd, Int.reduceSub, Int.reduceMul, Int.reduceNeg, not_true_eq_false, not_false_eq_true]
    rw [RS_d (by decide), RS_d (by decide), k71_3]
    generalize numC b t 1 99 (p + 1) (-1) = r at *
    by_cases g2 : t ≤ r.2.1
    · rw [if_pos g2] at kk
      have fin := fun v3 v4 v5 v6 v7 v8 => kk _ r.2.1 ((L.length : Int) + 1) v3 v4 v5 v6 v7 v8 (by omega) (by omega) e1 (fun _ => ⟨eL.symm, P1⟩)
      simp +decide (maxSteps := 4000000) (disch := omega) only [k71_0, k71_2, k71_3, k71_4, k71_5, k71_r, k71_s, F_al1, T_I, F_is2i, F_is2r, F_is2m, F_is3i, F_is3r, F_is3m, F_is4i, F_is4r, F_is4m, F_is5i, F_is5r, F_is5m, T_ft, F_il4, J_ifeq, F_il5, T_icge, T_getI, F_is6i, F_is6r, F_is6m, F_al0, F_is7i, F_is7r, F_is7m, F_is8i, F_is8r, F_is8m, F_il3, F_il8, T_add, T_icle, F_il6, T_getR, F_il2, F_il7, T_iast, F_inc2i, F_inc2r, F_inc2m, F_inc5i, F_inc5r, F_inc5m, T_goto, J_ifne, T_ret, J_cp, T_putI, T_putZ, c13, c14, c16, c18, c20, c24, c72, c73, ↓s13, ↓s14, ↓s16, ↓s18, ↓s24, ↓s20 F hn T1, show ¬ r.2.1 < t by omega, kd_44, ↓reduceIte, TK, lt_run hn, le43, Int.le_refl, Int.lt_irrefl, Option.some.injEq, exists_eq_left', true_and, and_true, if_true, if_false, decide_eq_false_iff_not, decide_eq_true_eq, Nat.reduceAdd, Nat.reduceLeDiff, Nat.reduceLT, Int.reduceAdd, Int.reduceSub, Int.reduceMul, Int.reduceNeg, not_true_eq_false, not_false_eq_true]
      rw [k71_1]
      simp +decide (maxSteps := 4000000) (disch := omega) only [k71_0, k71_2, k71_3, k71_5, k71_r, k71_s, F_al1, T_I, F_is2i, F_is2r, F_is2m, F_is3i, F_is3r, F_is3m, F_is4i, F_is4r, F_is4m, F_is5i, F_is5r, F_is5m, T_ft, F_il4, J_ifeq, F_il5, T_icge, T_getI, F_is6i, F_is6r, F_is6m, F_al0, F_is7i, F_is7r, F_is7m, F_is8i, F_is8r, F_is8m, F_il3, F_il8, T_add, T_icle, F_il6, T_getR, F_il2, F_il7, T_iast, F_inc2i, F_inc2r, F_inc2m, F_inc5i, F_inc5r, F_inc5m, T_goto, J_ifne, T_ret, J_cp, T_putI, T_putZ, c13, c14, c16, c18, c20, c24, c72, c73, ↓s13, ↓s14, ↓s16, ↓s18, ↓s20, ↓s24, ↓reduceIte, TK, lt_run hn, le43, Int.le_refl, Int.lt_irrefl, Option.some.injEq, exists_eq_left', true_and, and_true, if_true, if_false, decide_eq_false_iff_not, decide_eq_true_eq, Nat.reduceAdd, Nat.reduceLeDiff, Nat.reduceLT, Int.reduceAdd, Int.reduceSub, Int.reduceMul, Int.reduceNeg, not_true_eq_false, not_false_eq_true]
      exact fin _ _ _ _ _ _
    · rw [if_neg g2] at kk
      by_cases g3 : bt b t r.2.1 = 32
      · rw [if_pos g3] at kk
        have fin := ih (tot + r.1) (r.2.1 + 1) _ _ (.int (J p)) (.int (J (sdv b t V p))) (.int (J r.1)) (by omega) (by omega) (by omega) G2 T1 R1 P1 (fun h' p' m' v3 v4 v5 v6 v7 v8 a1 a2 a3 => kk h' p' m' v3 v4 v5 v6 v7 v8 a1 a2 (e1.trans a3))
        rw [eL] at fin
        simp +decide (maxSteps := 4000000) (disch := omega) only [k71_0, k71_2, k71_3, k71_4, k71_5, k71_r, k71_s, F_al1, T_I, F_is2i, F_is2r, F_is2m, F_is3i, F_is3r, F_is3m, F_is4i, F_is4r, F_is4m, F_is5i, F_is5r, F_is5m, T_ft, F_il4, J_ifeq, F_il5, T_icge, T_getI, F_is6i, F_is6r, F_is6m, F_al0, F_is7i, F_is7r, F_is7m, F_is8i, F_is8r, F_is8m, F_il3, F_il8, T_add, T_icle, F_il6, T_getR, F_il2, F_il7, T_iast, F_inc2i, F_inc2r, F_inc2m, F_inc5i, F_inc5r, F_inc5m, T_goto, J_ifne, T_ret, J_cp, T_putI, T_putZ, c13, c14, c16, c18, c20, c24, c72, c73, ↓s13, ↓s14, ↓s16, ↓s18, ↓s24, ↓s20 F hn T1, show r.2.1 < t by omega, g3, kd_44, ↓reduceIte, TK, lt_run hn, le43, Int.le_refl, Int.lt_irrefl, Option.some.injEq, exists_eq_left', true_and, and_true, if_true, if_false, decide_eq_false_iff_not, decide_eq_true_eq, Nat.reduceAdd, Nat.reduceLeDiff, Nat.reduceLT, Int.reduceAdd, Int.reduceSub, Int.reduceMul, Int.reduceNeg, not_true_eq_false, not_false_eq_true]
        exact fin
      · rw [if_neg g3] at kk
        have f1 : r.2.1 ≠ -1 := by omega
        have fin := fun v3 v4 v5 v6 v7 v8 => kk _ r.2.1 ((L.length : Int) + 1) v3 v4 v5 v6 v7 v8 (by omega) (by omega) e1 (fun z => absurd z f1)
        simp +decide (maxSteps := 4000000) (disch := omega) only [k71_0, k71_2, k71_3, k71_4, k71_5, k71_r, k71_s, F_al1, T_I, F_is2i, F_is2r, F_is2m, F_is3i, F_is3r, F_is3m, F_is4i, F_is4r, F_is4m, F_is5i, F_is5r, F_is5m, T_ft, F_il4, J_ifeq, F_il5, T_icge, T_getI, F_is6i, F_is6r, F_is6m, F_al0, F_is7i, F_is7r, F_is7m, F_is8i, F_is8r, F_is8m, F_il3, F_il8, T_add, T_icle, F_il6, T_getR, F_il2, F_il7, T_iast, F_inc2i, F_inc2r, F_inc2m, F_inc5i, F_inc5r, F_inc5m, T_goto, J_ifne, T_ret, J_cp, T_putI, T_putZ, c13, c14, c16, c18, c20, c24, c72, c73, ↓s13, ↓s14, ↓s16, ↓s18, ↓s24, ↓s20 F hn T1, show r.2.1 < t by omega, g3, kd_44, ↓reduceIte, TK, lt_run hn, le43, Int.le_refl, Int.lt_irrefl, Option.some.injEq, exists_eq_left', true_and, and_true, if_true, if_false, decide_eq_false_iff_not, decide_eq_true_eq, Nat.reduceAdd, Nat.reduceLeDiff, Nat.reduceLT, Int.reduceAdd, Int.reduceSub, Int.reduceMul, Int.reduceNeg, not_true_eq_false, not_false_eq_true]
        rw [k71_1]
        simp +decide (maxSteps := 4000000) (disch := omega) only [k71_0, k71_2, k71_3, k71_5, k71_r, k71_s, F_al1, T_I, F_is2i, F_is2r, F_is2m, F_is3i, F_is3r, F_is3m, F_is4i, F_is4r, F_is4m, F_is5i, F_is5r, F_is5m, T_ft, F_il4, J_ifeq, F_il5, T_icge, T_getI, F_is6i, F_is6r, F_is6m, F_al0, F_is7i, F_is7r, F_is7m, F_is8i, F_is8r, F_is8m, F_il3, F_il8, T_add, T_icle, F_il6, T_getR, F_il2, F_il7, T_iast, F_inc2i, F_inc2r, F_inc2m, F_inc5i, F_inc5r, F_inc5m, T_goto, J_ifne, T_ret, J_cp, T_putI, T_putZ, c13, c14, c16, c18, c20, c24, c72, c73, ↓s13, ↓s14, ↓s16, ↓s18, ↓s20, ↓s24, ↓reduceIte, TK, lt_run hn, le43, Int.le_refl, Int.lt_irrefl, Option.some.injEq, exists_eq_left', true_and, and_true, if_true, if_false, decide_eq_false_iff_not, decide_eq_true_eq, Nat.reduceAdd, Nat.reduceLeDiff, Nat.reduceLT, Int.reduceAdd, Int.reduceSub, Int.reduceMul, Int.reduceNeg, not_true_eq_false, not_false_eq_true]
        exact fin _ _ _ _ _ _
end SP
