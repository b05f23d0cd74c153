/-! take, count of strokes -/
/-- a loop whose references change -/
theorem T_forR {E : AEn} {m L : Nat} {n : Nat} {Q : ARs → Prop} {σ : Type} (ls : Int → σ → List Value) (P : Int → σ → AHi → AHr → Prop) (lo N : Int)
    (step : ∀ i s h hr, lo ≤ i → i < N → P i s h hr → (∀ s' h' hr', P (i + 1) s' h' hr' → Tm E m (a_bl m L) (ls (i + 1) s') [] h' hr' n Q) → Tm E m (a_bl m L) (ls i s) [] h hr n Q)
    (exit : ∀ s h hr, P N s h hr → Tm E m (a_bl m L) (ls N s) [] h hr n Q) :
    ∀ i s h hr, lo ≤ i → i ≤ N → P i s h hr → Tm E m (a_bl m L) (ls i s) [] h hr n Q := by
  have key : ∀ (q : Nat) i s h hr, lo ≤ i → i ≤ N → (N - i).toNat = q → P i s h hr → Tm E m (a_bl m L) (ls i s) [] h hr n Q := by
    intro q
    induction q with
    | zero =>
      intro i s h hr h1 h2 h3 hp
      have e : i = N := by omega
      subst e
      exact exit s h hr hp
    | succ q ih =>
      intro i s h hr h1 h2 h3 hp
      exact step i s h hr h1 (by omega) hp (fun s' h' hr' hp' => ih (i + 1) s' h' hr' (by omega) (by omega) (by omega) hp')
  exact fun i s h hr h1 h2 hp => key _ i s h hr h1 h2 rfl hp
section TK
variable {E : AEn} {h h' : AHi} {hr : AHr} {n : Nat} {Q : ARs → Prop} {S : Nat → Nat → Prop}
/-- the cells of one stroke of the reference -/
def Sk (t : Nat) (a k : Nat) : Prop := (a = 709 ∧ k = t) ∨ (a = 710 ∧ k = t) ∨ (a = 711 ∧ 10 * t ≤ k ∧ k < 10 * t + 10) ∨ (a = 712 ∧ 10 * t ≤ k ∧ k < 10 * t + 10)
theorem w230 (F : FH hr) (hn : 775 ≤ n) {f t : Int} (hf : 0 ≤ f ∧ f < 128) (ht : 0 ≤ t ∧ t < 128) (hne : f ≠ t)
    (k : ∀ h', Ef (Sk t.toNat) h h' → (∀ s, SM h f s → s.2.1 ≤ 10 → SM h' t s) → Q (none, h', hr, n)) : Sp E 230 [.ref 704, .int (J f), .int (J t)] h hr n Q := by
  simp +decide (maxSteps := 4000000) (disch := omega) only [k230_0, k230_2, k230_r, k230_s, F_al0, T_getR, F_il2, F_il1, X_iald, T_iast, T_I, F_is3i, F_is3r, F_is3m, T_ft, F_il3, T_icge, T_mul, T_add, F_inc3i, F_inc3r, F_inc3m, T_goto, T_ret, FM F, ln_709, ln_710, TK, lt_run hn, le43, Int.le_refl, Int.lt_irrefl, Option.some.injEq, exists_eq_left', true_and, and_true, if_true, if_false, decide_eq_false_iff_not, decide_eq_true_eq, Nat.reduceAdd, Nat.reduceLeDiff, Nat.reduceLT, Int.reduceAdd, Int.reduceSub, Int.reduceMul, Int.reduceNeg, not_true_eq_false, not_false_eq_true]
  refine T_for (σ := Unit) (fun i _ => [.ref 704, .int (J f), .int (J t), .int (J i)]) (fun i _ h' => Ef (Sk t.toNat) h h' ∧ (gA h' 709 t = gA h 709 f ∧ gA h' 710 t = gA h 710 f) ∧ ∀ j, 0 ≤ j → j < i → gA h' 711 (10 * t + j) = gA h 711 (10 * f + j) ∧ gA h' 712 (10 * t + j) = gA h 712 (10 * f + j)) 0 10 ?_ ?_ 0 () _ (by omega) (by omega) ⟨?_, ⟨?_, ?_⟩, fun j _ _ => by omega⟩
  · rintro i _ h' i0 i1 ⟨e, e1, e2⟩ ih
    have q1 : gA h' 711 (10 * f + i) = gA h 711 (10 * f + i) := e.g (fun q => by unfold Sk at q; omega)
    have q2 : gA h' 712 (10 * f + i) = gA h 712 (10 * f + i) := e.g (fun q => by unfold Sk at q; omega)
    rw [k230_1]
    simp +decide (maxSteps := 4000000) (disch := omega) only [k230_0, k230_2, k230_r, k230_s, F_al0, T_getR, F_il2, F_il1, X_iald, T_iast, T_I, F_is3i, F_is3r, F_is3m, T_ft, F_il3, T_icge, T_mul, T_add, F_inc3i, F_inc3r, F_inc3m, T_goto, T_ret, FM F, ln_711, ln_712, q1, show ¬ 10 ≤ i by omega, TK, lt_run hn, le43, Int.le_refl, Int.lt_irrefl, Option.some.injEq, exists_eq_left', true_and, and_true, if_true, if_false, decide_eq_false_iff_not, decide_eq_true_eq, Nat.reduceAdd, Nat.reduceLeDiff, Nat.reduceLT, Int.reduceAdd, Int.reduceSub, Int.reduceMul, Int.reduceNeg, not_true_eq_false, not_false_eq_true]
    refine ih () _ ⟨(e.sA ?_).sA ?_, ?_, fun j j0 j1 => ?_⟩
    · exact Or.inr (Or.inr (Or.inl ⟨rfl, by omega, by omega⟩))
    · exact Or.inr (Or.inr (Or.inr ⟨rfl, by omega, by omega⟩))
    · rw [gs_o (by decide), gs_o (by decide), gs_o (by decide), gs_o (by decide)]
      exact e1
    · rw [gs_o (by decide)]
      by_cases ej : j = i
      · subst ej
        rw [gs_s, gs_s, gs_o (by decide), q2]
        exact ⟨rfl, rfl⟩
      · rw [gs_k (by omega) (by omega) (by omega), gs_k (by omega) (by omega) (by omega), gs_o (by decide)]
        exact e2 j j0 (by omega)
  · rintro _ h' ⟨e, e1, e2⟩
    rw [k230_1]
    simp +decide (maxSteps := 4000000) (disch := omega) only [k230_0, k230_2, k230_r, k230_s, F_al0, T_getR, F_il2, F_il1, X_iald, T_iast, T_I, F_is3i, F_is3r, F_is3m, T_ft, F_il3, T_icge, T_mul, T_add, F_inc3i, F_inc3r, F_inc3m, T_goto, T_ret, TK, lt_run hn, le43, Int.le_refl, Int.lt_irrefl, Option.some.injEq, exists_eq_left', true_and, and_true, if_true, if_false, decide_eq_false_iff_not, decide_eq_true_eq, Nat.reduceAdd, Nat.reduceLeDiff, Nat.reduceLT, Int.reduceAdd, Int.reduceSub, Int.reduceMul, Int.reduceNeg, not_true_eq_false, not_false_eq_true]
    refine k h' e (fun s C p => ⟨⟨e1.1.trans C.1.1, e1.2.trans C.1.2⟩, fun j j0 j1 => ?_⟩)
    have q := e2 j j0 (by omega)
    have q' := C.2 j j0 j1
    exact ⟨q.1.trans q'.1, q.2.trans q'.2⟩
  · exact (Ef.refl.sA (Or.inl ⟨rfl, rfl⟩)).sA (Or.inr (Or.inl ⟨rfl, rfl⟩))
  · rw [gs_o (by decide), gs_s]
  · rw [gs_s, gs_o (by decide)]
/-- without stroke s -/
def dropS (D : Drw) (s : Int) : Drw := (D.1 - 1, fun i => if i < s then D.2 i else D.2 (i + 1))
def dropR (ρ : Nat → Nat) (s m : Nat) : Nat → Nat := fun i => if i < s then ρ i else if i + 1 < m then ρ (i + 1) else if i + 1 = m then ρ s else ρ i
theorem w40 (F : FH hr) (hn : 775 ≤ n) {b : Nat} {ρ : Nat → Nat} {m s : Int} (B : DB b) (hb : 159 ≤ b) (P : PS hr b ρ) (hd : ∀ k, dyn (b + 1) k = true) (hm : m ≤ 8) (hs : 0 ≤ s ∧ s < m) (c : h b 1 = J m)
    (k : ∀ hr', FH hr' → PS hr' b (dropR ρ s.toNat m.toNat) → (∀ a q, a ≠ b + 1 → hr' a q = hr a q) → Q (none, hI h b 1 (J (m - 1)), hr', n)) : Sp E 40 [.ref b, .int (J s)] h hr n Q := by
  have x1 := B.x E F
  have x2 := B.r
  have p1 := (P.1 s.toNat (by omega)).1
  have A := (P.sb B (s := s.toNat) (by omega)).x E F
  have A' := (P.sb B (s := s.toNat) (by omega)).r
  simp +decide (maxSteps := 4000000) (disch := omega) only [k40_0, k40_2, k40_r, k40_s, F_al0, T_getR, F_il1, X_aald, F_as2i, F_as2r, F_as2m, F_is3i, F_is3r, F_is3m, T_ft, F_il3, T_getI, T_I, T_sub, T_icge, T_add, T_aast, F_inc3i, F_inc3r, F_inc3m, T_goto, F_al2, T_dupI, T_dupR, T_putI, T_putZ, T_ret, x1, p1, A, TK, lt_run hn, le43, Int.le_refl, Int.lt_irrefl, Option.some.injEq, exists_eq_left', true_and, and_true, if_true, if_false, decide_eq_false_iff_not, decide_eq_true_eq, Nat.reduceAdd, Nat.reduceLeDiff, Nat.reduceLT, Int.reduceAdd, Int.reduceSub, Int.reduceMul, Int.reduceNeg, not_true_eq_false, not_false_eq_true]
  refine T_forR (σ := Unit) (fun i _ => [.ref b, .int (J s), .ref (ρ s.toNat), .int (J i)]) (fun i _ h' hr' => h' = h ∧ FH hr' ∧ (∀ a q, a ≠ b + 1 → hr' a q = hr a q) ∧ (∀ q, q < 8 → hr' (b + 1) q = some (if q < s.toNat then ρ q else if q < i.toNat then ρ (q + 1) else ρ q))) s (m - 1) ?_ ?_ s () h hr (by omega) (by omega) ⟨rfl, F, fun _ _ _ => rfl, fun q hq => ?_⟩
  · rintro i _ h' hr' i0 i1 ⟨rfl, F', o, e⟩ ih
    have x1' := B.x E F'
    have e1 := e (i + 1).toNat (by omega)
    rw [if_neg (by omega), if_neg (by omega)] at e1
    have A1 := (P.sb B (s := (i + 1).toNat) (by omega)).x E F'
    have A2 := (P.sb B (s := (i + 1).toNat) (by omega)).r
    rw [k40_1]
    simp +decide (maxSteps := 4000000) (disch := omega) only [k40_0, k40_2, k40_r, k40_s, F_al0, T_getR, F_il1, X_aald, F_as2i, F_as2r, F_as2m, F_is3i, F_is3r, F_is3m, T_ft, F_il3, T_getI, T_I, T_sub, T_icge, T_add, T_aast, F_inc3i, F_inc3r, F_inc3m, T_goto, F_al2, T_dupI, T_dupR, T_putI, T_putZ, T_ret, x1', c, e1, A1, show ¬ m - 1 ≤ i by omega, TK, lt_run hn, le43, Int.le_refl, Int.lt_irrefl, Option.some.injEq, exists_eq_left', true_and, and_true, if_true, if_false, decide_eq_false_iff_not, decide_eq_true_eq, Nat.reduceAdd, Nat.reduceLeDiff, Nat.reduceLT, Int.reduceAdd, Int.reduceSub, Int.reduceMul, Int.reduceNeg, not_true_eq_false, not_false_eq_true]
    refine ih () _ _ ⟨rfl, F'.set (hd _), fun a q ha => ?_, fun q hq => ?_⟩
    · rw [hR_o ha]
      exact o a q ha
    · by_cases g : q = i.toNat
      · subst g
        rw [hR_s, if_neg (by omega), if_pos (by omega), show i.toNat + 1 = (i + 1).toNat by omega]
      · rw [hR_k g, e q hq]
        by_cases g1 : q < s.toNat
        · rw [if_pos g1, if_pos g1]
        · rw [if_neg g1, if_neg g1]
          by_cases g2 : q < i.toNat
          · rw [if_pos g2, if_pos (by omega)]
          · rw [if_neg g2, if_neg (by omega)]
  · rintro _ h' hr' ⟨rfl, F', o, e⟩
    have x1' := B.x E F'
    have A1 := (P.sb B (s := s.toNat) (by omega)).x E F'
    rw [k40_1]
    simp +decide (maxSteps := 4000000) (disch := omega) only [k40_0, k40_2, k40_r, k40_s, F_al0, T_getR, F_il1, X_aald, F_as2i, F_as2r, F_as2m, F_is3i, F_is3r, F_is3m, T_ft, F_il3, T_getI, T_I, T_sub, T_icge, T_add, T_aast, F_inc3i, F_inc3r, F_inc3m, T_goto, F_al2, T_dupI, T_dupR, T_putI, T_putZ, T_ret, x1', c, A1, TK, lt_run hn, le43, Int.le_refl, Int.lt_irrefl, Option.some.injEq, exists_eq_left', true_and, and_true, if_true, if_false, decide_eq_false_iff_not, decide_eq_true_eq, Nat.reduceAdd, Nat.reduceLeDiff, Nat.reduceLT, Int.reduceAdd, Int.reduceSub, Int.reduceMul, Int.reduceNeg, not_true_eq_false, not_false_eq_true]
    refine k _ (F'.set (hd _)) ⟨fun q hq => ?_, fun q t hq ht eq => ?_⟩ (fun a q ha => ?_)
    · have hq2 : ∃ j, j < 8 ∧ dropR ρ s.toNat m.toNat q = ρ j := by
        unfold dropR
        by_cases g1 : q < s.toNat
        · exact ⟨q, hq, if_pos g1⟩
        · rw [if_neg g1]
          by_cases g2 : q + 1 < m.toNat
          · exact ⟨q + 1, by omega, if_pos g2⟩
          · rw [if_neg g2]
            by_cases g3 : q + 1 = m.toNat
            · exact ⟨s.toNat, by omega, if_pos g3⟩
            · exact ⟨q, hq, if_neg g3⟩
      refine ⟨?_, ?_⟩
      · unfold dropR
        by_cases g : q = (m - 1).toNat
        · subst g
          rw [hR_s, if_neg (by omega), if_neg (by omega), if_pos (by omega)]
        · rw [hR_k g, e q hq]
          by_cases g1 : q < s.toNat
          · rw [if_pos g1, if_pos g1]
          · rw [if_neg g1, if_neg g1]
            by_cases g2 : q + 1 < m.toNat
            · rw [if_pos (by omega), if_pos g2]
            · rw [if_neg (by omega), if_neg g2, if_neg (by omega)]
      · obtain ⟨j, hj, ej⟩ := hq2
        rw [ej]
        exact (P.1 j hj).2
    · unfold dropR at eq
      have inj := P.2
      by_cases g1 : q < s.toNat
      · rw [if_pos g1] at eq
        by_cases h1 : t < s.toNat
        · rw [if_pos h1] at eq
          exact inj q t hq ht eq
        · rw [if_neg h1] at eq
          by_cases h2 : t + 1 < m.toNat
          · rw [if_pos h2] at eq
            have := inj q (t + 1) hq (by omega) eq
            omega
          · rw [if_neg h2] at eq
            by_cases h3 : t + 1 = m.toNat
            · rw [if_pos h3] at eq
              have := inj q s.toNat hq (by omega) eq
              omega
            · rw [if_neg h3] at eq
              exact inj q t hq ht eq
      · rw [if_neg g1] at eq
        by_cases g2 : q + 1 < m.toNat
        · rw [if_pos g2] at eq
          by_cases h1 : t < s.toNat
          · rw [if_pos h1] at eq
            have := inj (q + 1) t (by omega) ht eq
            omega
          · rw [if_neg h1] at eq
            by_cases h2 : t + 1 < m.toNat
            · rw [if_pos h2] at eq
              have := inj (q + 1) (t + 1) (by omega) (by omega) eq
              omega
            · rw [if_neg h2] at eq
              by_cases h3 : t + 1 = m.toNat
              · rw [if_pos h3] at eq
                have := inj (q + 1) s.toNat (by omega) (by omega) eq
                omega
              · rw [if_neg h3] at eq
                have := inj (q + 1) t (by omega) ht eq
                omega
        · rw [if_neg g2] at eq
          by_cases g3 : q + 1 = m.toNat
          · rw [if_pos g3] at eq
            by_cases h1 : t < s.toNat
            · rw [if_pos h1] at eq
              have := inj s.toNat t (by omega) ht eq
              omega
            · rw [if_neg h1] at eq
              by_cases h2 : t + 1 < m.toNat
              · rw [if_pos h2] at eq
                have := inj s.toNat (t + 1) (by omega) (by omega) eq
                omega
              · rw [if_neg h2] at eq
                by_cases h3 : t + 1 = m.toNat
                · omega
                · rw [if_neg h3] at eq
                  have := inj s.toNat t (by omega) ht eq
                  omega
          · rw [if_neg g3] at eq
            by_cases h1 : t < s.toNat
            · rw [if_pos h1] at eq
              exact inj q t hq ht eq
            · rw [if_neg h1] at eq
              by_cases h2 : t + 1 < m.toNat
              · rw [if_pos h2] at eq
                have := inj q (t + 1) hq (by omega) eq
                omega
              · rw [if_neg h2] at eq
                by_cases h3 : t + 1 = m.toNat
                · rw [if_pos h3] at eq
                  have := inj q s.toNat hq (by omega) eq
                  omega
                · rw [if_neg h3] at eq
                  exact inj q t hq ht eq
    · rw [hR_o ha]
      exact o a q ha
  · rw [(P.1 q hq).1]
    by_cases g1 : q < s.toNat
    · rw [if_pos g1]
    · rw [if_neg g1, if_neg (by omega)]
theorem dynD {d k : Nat} (hd : d < 16) : dyn (159 + 29 * d + 1) k = true := by
  unfold dyn
  have e1 : Nat.ble 160 (159 + 29 * d + 1) = true := Nat.ble_eq_true_of_le (by omega)
  have e2 : Nat.blt (159 + 29 * d + 1) 624 = true := Nat.ble_eq_true_of_le (by omega)
  have e3 : (159 + 29 * d + 1 - 160) % 29 = 0 := by omega
  rw [e1, e2, e3]
  simp
theorem z228 (F : FH hr) (hn : 775 ≤ n) {d s : Int} {D : Drw} (hd : 0 ≤ d ∧ d < 16) (R : DRr D) (hs : 0 ≤ s ∧ s < D.1) (M : DM h d D)
    (k : ∀ h', Ef (fun a k => Sdc d.toNat a k ∧ 709 ≤ a) h h' → (∀ i, 0 ≤ i → i < D.1 - 1 → SM h' (8 * d + i) ((dropS D s).2 i)) → Tm E 228 (a_bl 228 3) [.ref 704, .int (J d), .int (J s), .int (J (D.1 - 1))] [] h' hr n Q) :
    Tm E 228 (a_bl 228 2) [.ref 704, .int (J d), .int (J s), .int (J s)] [] h hr n Q := by
  have r1 := R.1
  refine T_for (σ := Unit) (fun i _ => [.ref 704, .int (J d), .int (J s), .int (J i)]) (fun i _ h' => Ef (fun a k => Sdc d.toNat a k ∧ 709 ≤ a) h h' ∧ ∀ q, 0 ≤ q → q < D.1 → SM h' (8 * d + q) (if s ≤ q ∧ q < i then D.2 (q + 1) else D.2 q)) s (D.1 - 1) ?_ ?_ s () h (by omega) (by omega) ⟨Ef.refl, fun q q1 q2 => ?_⟩
  · rintro i _ h' i0 i1 ⟨e, e1⟩ ih
    have q1 : gA h' 708 d = J D.1 := by
      rw [e.g (fun q => by omega)]
      exact M.1
    rw [k228_2]
    simp +decide (maxSteps := 4000000) (disch := omega) only [k228_0, k228_1, k228_3, k228_r, k228_s, F_al0, F_il1, F_il2, J_ifne, T_I, T_ret, F_is3i, F_is3r, F_is3m, T_ft, F_il3, T_getR, X_iald, T_sub, T_icge, T_mul, T_add, F_inc3i, F_inc3r, F_inc3m, T_goto, T_dup2, T_iast, c229, c230, ↓s229, FM F, ln_708, q1, show ¬ D.1 - 1 ≤ i by omega, TK, lt_run hn, le43, Int.le_refl, Int.lt_irrefl, Option.some.injEq, exists_eq_left', true_and, and_true, if_true, if_false, decide_eq_false_iff_not, decide_eq_true_eq, Nat.reduceAdd, Nat.reduceLeDiff, Nat.reduceLT, Int.reduceAdd, Int.reduceSub, Int.reduceMul, Int.reduceNeg, not_true_eq_false, not_false_eq_true]
    refine w230 F hn (by omega) (by omega) (by omega) (fun h2 e2 c2 => ?_)
    simp +decide (maxSteps := 4000000) (disch := omega) only [k228_0, k228_1, k228_3, k228_r, k228_s, F_al0, F_il1, F_il2, J_ifne, T_I, T_ret, F_is3i, F_is3r, F_is3m, T_ft, F_il3, T_getR, X_iald, T_sub, T_icge, T_mul, T_add, F_inc3i, F_inc3r, F_inc3m, T_goto, T_dup2, T_iast, c229, c230, ↓s229, TK, lt_run hn, le43, Int.le_refl, Int.lt_irrefl, Option.some.injEq, exists_eq_left', true_and, and_true, if_true, if_false, decide_eq_false_iff_not, decide_eq_true_eq, Nat.reduceAdd, Nat.reduceLeDiff, Nat.reduceLT, Int.reduceAdd, Int.reduceSub, Int.reduceMul, Int.reduceNeg, not_true_eq_false, not_false_eq_true]
    refine ih () _ ⟨e.trans (e2.mono fun x y q => ?_), fun q q1 q2 => ?_⟩
    · unfold Sk at q
      unfold Sdc
      omega
    · by_cases g : q = i
      · subst g
        have c3 := e1 (q + 1) (by omega) (by omega)
        rw [if_neg (by omega)] at c3
        rw [if_pos (by omega)]
        have c4 := c2 (D.2 (q + 1)) (by rw [show 8 * d + q + 1 = 8 * d + (q + 1) by omega]; exact c3) ((R.2 (q + 1)).2.1.2)
        exact c4
      · have c3 := e1 q q1 q2
        have c4 : SM h2 (8 * d + q) (if s ≤ q ∧ q < i then D.2 (q + 1) else D.2 q) := by
          refine c3.ef (by omega) ?_ e2 (fun q => ?_) (fun q => ?_) (fun j _ _ => ⟨fun q => ?_, fun q => ?_⟩)
          · split
            · exact (R.2 _).2.1.2
            · exact (R.2 _).2.1.2
          all_goals
            unfold Sk at q
            omega
        by_cases g1 : s ≤ q ∧ q < i
        · rw [if_pos g1] at c4
          rw [if_pos (by omega)]
          exact c4
        · rw [if_neg g1] at c4
          rw [if_neg (by omega)]
          exact c4
  · rintro _ h' ⟨e, e1⟩
    have q1 : gA h' 708 d = J D.1 := by
      rw [e.g (fun q => by omega)]
      exact M.1
    rw [k228_2]
    simp +decide (maxSteps := 4000000) (disch := omega) only [k228_0, k228_1, k228_r, k228_s, F_al0, F_il1, F_il2, J_ifne, T_I, T_ret, F_is3i, F_is3r, F_is3m, T_ft, F_il3, T_getR, X_iald, T_sub, T_icge, T_mul, T_add, F_inc3i, F_inc3r, F_inc3m, T_goto, T_dup2, T_iast, c229, c230, ↓s229, FM F, ln_708, q1, TK, lt_run hn, le43, Int.le_refl, Int.lt_irrefl, Option.some.injEq, exists_eq_left', true_and, and_true, if_true, if_false, decide_eq_false_iff_not, decide_eq_true_eq, Nat.reduceAdd, Nat.reduceLeDiff, Nat.reduceLT, Int.reduceAdd, Int.reduceSub, Int.reduceMul, Int.reduceNeg, not_true_eq_false, not_false_eq_true]
    refine k h' e (fun i i0 i1 => ?_)
    have c3 := e1 i i0 (by omega)
    show SM h' (8 * d + i) (if i < s then D.2 i else D.2 (i + 1))
    by_cases g : i < s
    · rw [if_pos g]
      rw [if_neg (by omega)] at c3
      exact c3
    · rw [if_neg g]
      rw [if_pos (by omega)] at c3
      exact c3
  · rw [if_neg (by omega)]
    exact M.2 q q1 q2
/-- a call that changes drawings alone, their references too -/
def PoD (h : AHi) (hr : AHr) (n : Nat) : AHi → AHr → Nat → Prop := fun h' hr' n' => (Cp3 h' hr' ∧ Kp 3 3 h h') ∧ (FH hr' ∧ ∀ a q, (∀ d, d < 16 → a ≠ 159 + 29 * d + 1) → hr' a q = hr a q) ∧ n' = n
theorem Ptake (F : FH hr) (hn : 775 ≤ n) (C : Cp3 h hr) (x y : Int32) : Pr2 E 140 228 [.int x, .int y] h hr n (PoD h hr n) := by
  have C0 := C
  obtain ⟨D, ρ, C⟩ := C
  obtain ⟨a, ha, ha', rfl⟩ := J_of x
  obtain ⟨b, hb, hb', rfl⟩ := J_of y
  unfold Pr2
  by_cases g : (0 ≤ a ∧ a ≤ 15) ∧ 0 ≤ b ∧ b ≤ (D a).1 - 1
  case neg =>
    simp +decide (maxSteps := 4000000) (disch := omega) only [k140_0, k140_1, k140_r, k140_s, F_al0, F_il1, F_il2, J_ifne, T_I, T_ret, T_getR, X_aald, T_getI, c40, c141, FX F, ↓s141 F hn C.1 C.cc, g, TK, lt_run hn, le43, Int.le_refl, Int.lt_irrefl, Option.some.injEq, exists_eq_left', true_and, and_true, if_true, if_false, decide_eq_false_iff_not, decide_eq_true_eq, Nat.reduceAdd, Nat.reduceLeDiff, Nat.reduceLT, Int.reduceAdd, Int.reduceSub, Int.reduceMul, Int.reduceNeg, not_true_eq_false, not_false_eq_true]
    refine ⟨_, rfl, ?_⟩
    simp +decide (maxSteps := 4000000) (disch := omega) only [k228_0, k228_1, k228_3, k228_r, k228_s, F_al0, F_il1, F_il2, J_ifne, T_I, T_ret, F_is3i, F_is3r, F_is3m, T_ft, F_il3, T_getR, X_iald, T_sub, T_icge, T_mul, T_add, F_inc3i, F_inc3r, F_inc3m, T_goto, T_dup2, T_iast, c229, c230, FM F, ↓s229 F hn C.1 C.mc, g, TK, lt_run hn, le43, Int.le_refl, Int.lt_irrefl, Option.some.injEq, exists_eq_left', true_and, and_true, if_true, if_false, decide_eq_false_iff_not, decide_eq_true_eq, Nat.reduceAdd, Nat.reduceLeDiff, Nat.reduceLT, Int.reduceAdd, Int.reduceSub, Int.reduceMul, Int.reduceNeg, not_true_eq_false, not_false_eq_true]
    exact ⟨⟨C0, Kp.refl⟩, ⟨F, fun _ _ _ => rfl⟩, rfl⟩
  obtain ⟨P, c, m⟩ := C.2 a g.1.1 (by omega)
  have r := C.1 a
  have r1 := r.1
  have x1 := X48 F g.1.1 (show a < 16 by omega)
  have B := DB_d g.1.1 (show a < 16 by omega)
  have x2 := B.x E F
  simp +decide (maxSteps := 4000000) (disch := omega) only [k140_0, k140_1, k140_r, k140_s, F_al0, F_il1, F_il2, J_ifne, T_I, T_ret, T_getR, X_aald, T_getI, c40, c141, FX F, ↓s141 F hn C.1 C.cc, g, x1, x2, kd_48, ln_48, TK, lt_run hn, le43, Int.le_refl, Int.lt_irrefl, Option.some.injEq, exists_eq_left', true_and, and_true, if_true, if_false, decide_eq_false_iff_not, decide_eq_true_eq, Nat.reduceAdd, Nat.reduceLeDiff, Nat.reduceLT, Int.reduceAdd, Int.reduceSub, Int.reduceMul, Int.reduceNeg, not_true_eq_false, not_false_eq_true]
  refine w40 F hn B (by omega) P (fun k => dynD (by omega)) r1.2 (by omega) c.1 (fun hr' F' P' o => ?_)
  have x1' := X48 F' g.1.1 (show a < 16 by omega)
  have x2' := B.x E F'
  simp +decide (maxSteps := 4000000) (disch := omega) only [k140_0, k140_1, k140_r, k140_s, F_al0, F_il1, F_il2, J_ifne, T_I, T_ret, T_getR, X_aald, T_getI, c40, c141, ↓s141, FX F', x1', x2', kd_48, ln_48, hI_s, TK, lt_run hn, le43, Int.le_refl, Int.lt_irrefl, Option.some.injEq, exists_eq_left', true_and, and_true, if_true, if_false, decide_eq_false_iff_not, decide_eq_true_eq, Nat.reduceAdd, Nat.reduceLeDiff, Nat.reduceLT, Int.reduceAdd, Int.reduceSub, Int.reduceMul, Int.reduceNeg, not_true_eq_false, not_false_eq_true]
  refine ⟨_, rfl, ?_⟩
  have mc : ∀ d, 0 ≤ d → d < 16 → gA (hI h (159 + 29 * a.toNat) 1 (J ((D a).1 - 1))) 708 d = J (D d).1 := fun d d1 d2 => by
    rw [gA_o (by omega)]
    exact C.mc d d1 d2
  simp +decide (maxSteps := 4000000) (disch := omega) only [k228_0, k228_1, k228_3, k228_r, k228_s, F_al0, F_il1, F_il2, J_ifne, T_I, T_ret, F_is3i, F_is3r, F_is3m, T_ft, F_il3, T_getR, X_iald, T_sub, T_icge, T_mul, T_add, F_inc3i, F_inc3r, F_inc3m, T_goto, T_dup2, T_iast, c229, c230, FM F', ↓s229 F' hn C.1 mc, g, TK, lt_run hn, le43, Int.le_refl, Int.lt_irrefl, Option.some.injEq, exists_eq_left', true_and, and_true, if_true, if_false, decide_eq_false_iff_not, decide_eq_true_eq, Nat.reduceAdd, Nat.reduceLeDiff, Nat.reduceLT, Int.reduceAdd, Int.reduceSub, Int.reduceMul, Int.reduceNeg, not_true_eq_false, not_false_eq_true]
  have e0 : Ef (fun x k => x = 159 + 29 * a.toNat ∧ k = 1) h (hI h (159 + 29 * a.toNat) 1 (J ((D a).1 - 1))) := Ef.refl.hI ⟨rfl, rfl⟩
  refine z228 F' hn (by omega) r (by omega) ⟨mc a (by omega) (by omega), fun s s1 s2 => (m.2 s s1 s2).ef (by omega) ((r.2 s).2.1.2) e0 (by omega) (by omega) (fun i _ _ => by omega)⟩ (fun h2 e2 c2 => ?_)
  have q1 : gA h2 708 a = J (D a).1 := by
    rw [e2.g (fun q => by omega)]
    exact mc a (by omega) (by omega)
  simp +decide (maxSteps := 4000000) (disch := omega) only [k228_0, k228_1, k228_3, k228_r, k228_s, F_al0, F_il1, F_il2, J_ifne, T_I, T_ret, F_is3i, F_is3r, F_is3m, T_ft, F_il3, T_getR, X_iald, T_sub, T_icge, T_mul, T_add, F_inc3i, F_inc3r, F_inc3m, T_goto, T_dup2, T_iast, c229, c230, ↓s229, FM F', ln_708, q1, gs_s, TK, lt_run hn, le43, Int.le_refl, Int.lt_irrefl, Option.some.injEq, exists_eq_left', true_and, and_true, if_true, if_false, decide_eq_false_iff_not, decide_eq_true_eq, Nat.reduceAdd, Nat.reduceLeDiff, Nat.reduceLT, Int.reduceAdd, Int.reduceSub, Int.reduceMul, Int.reduceNeg, not_true_eq_false, not_false_eq_true]
  have e3 : Ef (fun x k => Sdc a.toNat x k) h (sA h2 708 a (J ((D a).1 - 1))) := by
    refine Ef.sA (Ef.trans (e0.mono fun x k q => ?_) (e2.mono fun x k q => q.1)) (Or.inr (Or.inl ⟨rfl, rfl⟩))
    exact Or.inl (by omega)
  have e4 : Ef (fun x k => 708 ≤ x) (hI h (159 + 29 * a.toNat) 1 (J ((D a).1 - 1))) (sA h2 708 a (J ((D a).1 - 1))) := Ef.sA (e2.mono fun x k q => by omega) (Nat.le_refl _)
  refine ⟨⟨⟨_, _, C.upd g.1.1 (by omega) (D' := dropS (D a) b) (e3.mono fun x k q => Or.inl q) o ⟨?_, fun s => ?_⟩ P' ⟨?_, fun s s1 s2 => ?_⟩ ⟨?_, fun s s1 s2 => ?_⟩⟩, ?_⟩, ⟨F', fun x q hx => o x q (hx a.toNat (by omega))⟩, rfl⟩
  · show 0 ≤ (D a).1 - 1 ∧ (D a).1 - 1 ≤ 8
    omega
  · show SR (if s < b then (D a).2 s else (D a).2 (s + 1))
    split
    · exact r.2 _
    · exact r.2 _
  · rw [e4 _ _ (by omega), hI_s]
    rfl
  · have s2' : s < (D a).1 - 1 := s2
    have key : ∀ t : Int, 0 ≤ t → t < (D a).1 → SC (sA h2 708 a (J ((D a).1 - 1))) (ρ a t.toNat) ((D a).2 t) := fun t t1 t2 => by
      have pr := P.r (s := t.toNat) (by omega)
      exact ((c.2 t t1 t2).ef e0 (fun y k y1 y2 => by omega)).ef e4 (fun y k y1 y2 => by omega)
    show SC _ (dropR (ρ a) b.toNat (D a).1.toNat s.toNat) (if s < b then (D a).2 s else (D a).2 (s + 1))
    unfold dropR
    by_cases g1 : s < b
    · rw [if_pos g1, if_pos (by omega)]
      exact key s s1 (by omega)
    · rw [if_neg g1, if_neg (by omega), if_pos (by omega), show s.toNat + 1 = (s + 1).toNat by omega]
      exact key (s + 1) (by omega) (by omega)
  · rw [gs_s]
    rfl
  · have s2' : s < (D a).1 - 1 := s2
    have e5 : Ef (fun x k => x = 708) h2 (sA h2 708 a (J ((D a).1 - 1))) := Ef.refl.sA rfl
    refine (c2 s s1 s2').ef (by omega) ?_ e5 (by decide) (by decide) (fun i _ _ => by decide)
    show (if s < b then (D a).2 s else (D a).2 (s + 1)).2.1 ≤ 10
    split
    · exact (r.2 _).2.1.2
    · exact (r.2 _).2.1.2
  · refine Ef.mono (Ef.trans (e0.mono (S' := fun x k => (x = 159 + 29 * a.toNat ∧ k = 1) ∨ (708 ≤ x ∧ x ≤ 712)) fun x k q => Or.inl q) (Ef.sA (e2.mono fun x k q => Or.inr ?_) (Or.inr (by decide)))) (fun x k q => Or.inr (Or.inl ?_))
    · obtain ⟨q, q2⟩ := q
      unfold Sdc at q
      omega
    · rcases q with q | q
      · obtain ⟨rfl, rfl⟩ := q
        exact sysS1 (by omega) (by decide)
      · rcases (show x = 708 ∨ x = 709 ∨ x = 710 ∨ x = 711 ∨ x = 712 by omega) with rfl | rfl | rfl | rfl | rfl <;> rfl
end TK
