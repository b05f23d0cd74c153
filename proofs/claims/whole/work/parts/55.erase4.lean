/-! erase: the reference's side -/
section EU
variable {E : AEn} {h h' : AHi} {hr : AHr} {n : Nat} {Q : ARs → Prop} {s : Stk} {S : Nat → Nat → Prop} {l : List Stk} {x y r : Int} {H : Int → Bool}
/-- the reference's list of parts -/
def LMl (h : AHi) (l : List Stk) : Prop := ∀ (i : Nat) (st : Stk), l[i]? = some st → (st.2.1 ≤ 10 ∧ gA h 715 i = J st.1 ∧ gA h 716 i = J st.2.1) ∧ ∀ j, 0 ≤ j → j < st.2.1 → gA h 717 (10 * i + j) = J (st.2.2.1 j) ∧ gA h 718 (10 * i + j) = J (st.2.2.2 j)
def Sl (a k : Nat) : Prop := (715 ≤ a ∧ a ≤ 718) ∨ (a = 704 ∧ (k = 16 ∨ k = 17))
def opn (s : Stk) (H : Int → Bool) (q : Int) : List Stk := (erS s H q.toNat).1 ++ (if (erS s H q.toNat).2 < q then [prt s (erS s H q.toNat).2 q] else [])
theorem opn_h {q : Int} (q0 : 0 ≤ q) (hq : H q = true) : opn s H (q + 1) = opn s H q := by
  unfold opn
  rw [erS_s q0, hq]
  dsimp only [cond_true]
  rw [if_neg (show ¬ q + 1 < q + 1 by omega), List.append_nil]
theorem opn_o {q : Int} (q0 : 0 ≤ q) (hq : H q = false) (hb : (erS s H q.toNat).2 < q) : opn s H q = (erS s H q.toNat).1 ++ [prt s (erS s H q.toNat).2 q] ∧ opn s H (q + 1) = (erS s H q.toNat).1 ++ [prt s (erS s H q.toNat).2 (q + 1)] := by
  unfold opn
  rw [erS_s q0, hq]
  dsimp only [cond_false]
  rw [if_pos hb, if_pos (by omega)]
  exact ⟨rfl, rfl⟩
theorem opn_n {q : Int} (q0 : 0 ≤ q) (hq : H q = false) (hb : ¬ (erS s H q.toNat).2 < q) : opn s H q = (erS s H q.toNat).1 ∧ opn s H (q + 1) = (erS s H q.toNat).1 ++ [prt s q (q + 1)] := by
  have eb := erS_b (s := s) (H := H) q.toNat
  have e : (erS s H q.toNat).2 = q := by omega
  unfold opn
  rw [erS_s q0, hq]
  dsimp only [cond_false]
  rw [if_neg hb, if_pos (by omega), List.append_nil]
  exact ⟨rfl, by rw [e]⟩
theorem opn_l {q : Int} (q1 : q ≤ 9) : (opn s H q).length ≤ 5 := by
  have eb := erS_b (s := s) (H := H) q.toNat
  unfold opn
  rw [List.length_append]
  split
  · simp only [List.length_cons, List.length_nil]
    omega
  · simp only [List.length_nil]
    omega
theorem LMl.ef (C : LMl h l) (e : Ef S h h') (hs : ∀ a k, 715 ≤ a → a ≤ 718 → ¬ S a k) : LMl h' l := fun i st q => by
  obtain ⟨⟨a0, a1, a2⟩, a3⟩ := C i st q
  refine ⟨⟨a0, ?_, ?_⟩, fun j j0 j1 => ?_⟩
  · rw [e.g (hs _ _ (by decide) (by decide))]
    exact a1
  · rw [e.g (hs _ _ (by decide) (by decide))]
    exact a2
  · rw [e.g (hs _ _ (by decide) (by decide)), e.g (hs _ _ (by decide) (by decide))]
    exact a3 j j0 j1
theorem e236 (F : FH hr) (hn : 775 ≤ n) {d k0 g1 b q : Int} (R : SR s) (hk : 0 ≤ k0 ∧ k0 < 128) (hb : 0 ≤ b ∧ b ≤ q) (hq : q + 1 < s.2.1) (hl : l.length < 70) (C : SM h k0 s) (L : LMl h (l ++ [prt s b q])) (v10 : Value)
    (k : ∀ h' v10, LMl h' (l ++ [prt s b (q + 1)]) → Ef Sl h h' → Tm E 236 (a_bl 236 7) [.ref 704, .int (J d), .int (J x), .int (J y), .int (J r), .int (J ((l.length : Int) + 1)), .int (J g1), .int (J k0), .int (J 1), .int (J (10 * k0 + q)), v10] [] h' hr n Q) :
    Tm E 236 (a_bl 236 6) [.ref 704, .int (J d), .int (J x), .int (J y), .int (J r), .int (J ((l.length : Int) + 1)), .int (J g1), .int (J k0), .int (J 1), .int (J (10 * k0 + q)), v10] [] h hr n Q := by
  have r2 := R.2.1
  have c := C.2 (q + 1) (by omega) hq
  have L0 := L l.length (prt s b q) (by rw [List.getElem?_append_right (Nat.le_refl _), Nat.sub_self]; rfl)
  have m0 : gA h 716 (l.length : Int) = J (q - b + 1) := L0.1.2.2
  rw [show 10 * k0 + (q + 1) = 10 * k0 + q + 1 by omega] at c
  have c2 : gA (sA h 717 (10 * (l.length : Int) + (q - b + 1)) (J (s.2.2.1 (q + 1)))) 712 (10 * k0 + q + 1) = J (s.2.2.2 (q + 1)) := by rw [gs_o (by decide)]; exact c.2
  have m1 : gA (sA (sA h 717 (10 * (l.length : Int) + (q - b + 1)) (J (s.2.2.1 (q + 1)))) 718 (10 * (l.length : Int) + (q - b + 1)) (J (s.2.2.2 (q + 1)))) 716 (l.length : Int) = J (q - b + 1) := by rw [gs_o (by decide), gs_o (by decide)]; exact m0
  rw [k236_6]
  simp +decide (maxSteps := 4000000) (disch := omega) only [k236_0, k236_1, k236_2, k236_5, k236_6, k236_8, k236_9, k236_10, k236_13, k236_14, k236_r, k236_s, F_il1, J_ifeq, F_il2, F_il3, F_il4, T_I, J_ifne, T_ft, T_ret, F_is5i, F_is5r, F_is5m, F_is6i, F_is6r, F_is6m, T_mul, F_is7i, F_is7r, F_is7m, F_il7, F_al0, T_getR, X_iald, T_add, T_icge, F_is8i, F_is8r, F_is8m, F_is9i, F_is9r, F_is9m, F_il9, T_sub, F_inc6i, F_inc6r, F_inc6m, T_goto, F_il8, F_il5, T_iast, F_inc5i, F_inc5r, F_inc5m, F_is10i, F_is10r, F_is10m, F_il10, T_dup2, F_inc9i, F_inc9r, F_inc9m, F_inc7i, F_inc7r, F_inc7m, T_icle, T_putI, T_putZ, T_getI, F_inc8i, F_inc8r, F_inc8m, F_il6, c218, c219, c227, c237, c238, ↓s218, ↓s219, ↓s237, FM F, ln_711, ln_712, ln_716, ln_717, ln_718, c.1, c2, m0, m1, show (l.length : Int) + 1 - 1 = l.length by omega, TK, lt_run hn, le43, Int.le_refl, Int.lt_irrefl, Option.some.injEq, exists_eq_left', true_and, and_true, if_true, if_false, decide_eq_false_iff_not, decide_eq_true_eq, Nat.reduceAdd, Nat.reduceLeDiff, Nat.reduceLT, Int.reduceAdd, Int.reduceSub, Int.reduceMul, Int.reduceNeg, not_true_eq_false, not_false_eq_true]
  refine k _ _ (fun i st hst => ?_) (Ef.sA (Ef.sA (Ef.sA Ef.refl (Or.inl (by decide))) (Or.inl (by decide))) (Or.inl (by decide)))
  by_cases e : i < l.length
  · have hst' : (l ++ [prt s b q])[i]? = some st := by rw [List.getElem?_append_left e]; exact gC_a hst e
    obtain ⟨⟨a0, a1, a2⟩, a3⟩ := L i st hst'
    refine ⟨⟨a0, ?_, ?_⟩, fun j j0 j1 => ⟨?_, ?_⟩⟩
    · rw [gs_o (by decide), gs_o (by decide), gs_o (by decide)]
      exact a1
    · rw [gs_k (by omega) (by omega) (by omega), gs_o (by decide), gs_o (by decide)]
      exact a2
    · rw [gs_o (by decide), gs_o (by decide), gs_k (by omega) (by omega) (by omega)]
      exact (a3 j j0 j1).1
    · rw [gs_o (by decide), gs_k (by omega) (by omega) (by omega), gs_o (by decide)]
      exact (a3 j j0 j1).2
  · obtain ⟨rfl, rfl⟩ := gC_b hst e
    refine ⟨⟨?_, ?_, ?_⟩, fun j j0 j1 => ?_⟩
    · show q + 1 - b + 1 ≤ 10
      omega
    · rw [gs_o (by decide), gs_o (by decide), gs_o (by decide)]
      exact L0.1.2.1
    · rw [gs_s]
      show J (q - b + 1 + 1) = J (q + 1 - b + 1)
      rw [show q - b + 1 + 1 = q + 1 - b + 1 by omega]
    · have j1' : j < q + 1 - b + 1 := j1
      show _ = J (s.2.2.1 (b + j)) ∧ _ = J (s.2.2.2 (b + j))
      by_cases g : j = q - b + 1
      · rw [g, show b + (q - b + 1) = q + 1 by omega]
        refine ⟨?_, ?_⟩
        · rw [gs_o (by decide), gs_o (by decide), gs_s]
        · rw [gs_o (by decide), gs_s]
      · have a4 := L0.2 j j0 (show j < q - b + 1 by omega)
        refine ⟨?_, ?_⟩
        · rw [gs_o (by decide), gs_o (by decide), gs_k (by omega) (by omega) (by omega)]
          exact a4.1
        · rw [gs_o (by decide), gs_k (by omega) (by omega) (by omega), gs_o (by decide)]
          exact a4.2
theorem z236 (F : FH hr) (hn : 775 ≤ n) {d k0 g0 : Int} (R : SR s) (hk : 0 ≤ k0 ∧ k0 < 128) (hx : 0 ≤ x ∧ x ≤ 47) (hy : 0 ≤ y ∧ y ≤ 31) (hr' : 0 ≤ r ∧ r ≤ 10) (hl : l.length ≤ 40) (C : SM h k0 s) (L : LMl h l) (v10 : Value)
    (k : ∀ h' v8 v10, LMl h' (l ++ erP s (ght x y r s)) → Ef Sl h h' → Tm E 236 (a_bl 236 8) [.ref 704, .int (J d), .int (J x), .int (J y), .int (J r), .int (J (l ++ erP s (ght x y r s)).length), .int (J (g0 + acc (fun q => b01 (ght x y r s q)) (s.2.1 - 1).toNat)), .int (J k0), .int v8, .int (J (10 * k0 + (s.2.1 - 1))), v10] [] h' hr n Q) :
    Tm E 236 (a_bl 236 4) [.ref 704, .int (J d), .int (J x), .int (J y), .int (J r), .int (J l.length), .int (J g0), .int (J k0), .int (J 0), .int (J (10 * k0)), v10] [] h hr n Q := by
  have r2 := R.2.1
  have fr : ∀ {h'}, Ef Sl h h' → SM h' k0 s := fun e => C.ef (by omega) r2.2 e (fun q => by unfold Sl at q; omega) (fun q => by unfold Sl at q; omega) (fun i _ _ => ⟨fun q => by unfold Sl at q; omega, fun q => by unfold Sl at q; omega⟩)
  have key := T_for (E := E) (m := 236) (L := 4) (hr := hr) (n := n) (Q := Q) (σ := Value) (fun q v => [.ref 704, .int (J d), .int (J x), .int (J y), .int (J r), .int (J (l ++ opn s (ght x y r s) q).length), .int (J (g0 + acc (fun q => b01 (ght x y r s q)) q.toNat)), .int (J k0), .int (Bz (decide ((erS s (ght x y r s) q.toNat).2 < q))), .int (J (10 * k0 + q)), v]) (fun q _ h' => Ef Sl h h' ∧ LMl h' (l ++ opn s (ght x y r s) q)) 0 (s.2.1 - 1) ?_ ?_ 0 v10 h (by omega) (by omega) ⟨Ef.refl, by show LMl h (l ++ []); rw [List.append_nil]; exact L⟩
  · have e1 : opn s (ght x y r s) 0 = [] := rfl
    rw [e1, List.append_nil, Int.add_zero, show acc (fun q => b01 (ght x y r s q)) (0 : Int).toNat = 0 from rfl, Int.add_zero] at key
    exact key
  · rintro q v h1 q0 q1 ⟨e1, L1⟩ ih
    have C1 := fr e1
    have c0 := C1.1.2
    have cc := C1.1.1
    have c1 := C1.2 q q0 (by omega)
    have c2 := C1.2 (q + 1) (by omega) (by omega)
    rw [show 10 * k0 + (q + 1) = 10 * k0 + q + 1 by omega] at c2
    have b1 := R.2.2 q
    have b2 := R.2.2 (q + 1)
    have eb := erS_b (s := s) (H := ght x y r s) q.toNat
    have ol := opn_l (s := s) (H := ght x y r s) (q := q) (by omega)
    have ac := acc_s (fun q => b01 (ght x y r s q)) q0
    rw [k236_4]
    simp +decide (maxSteps := 4000000) (disch := omega) only [k236_0, k236_1, k236_2, k236_6, k236_7, k236_8, k236_9, k236_10, k236_13, k236_14, k236_r, k236_s, F_il1, J_ifeq, F_il2, F_il3, F_il4, T_I, J_ifne, T_ft, T_ret, F_is5i, F_is5r, F_is5m, F_is6i, F_is6r, F_is6m, T_mul, F_is7i, F_is7r, F_is7m, F_il7, F_al0, T_getR, X_iald, T_add, T_icge, F_is8i, F_is8r, F_is8m, F_is9i, F_is9r, F_is9m, F_il9, T_sub, F_inc6i, F_inc6r, F_inc6m, T_goto, F_il8, F_il5, T_iast, F_inc5i, F_inc5r, F_inc5m, F_is10i, F_is10r, F_is10m, F_il10, T_dup2, F_inc9i, F_inc9r, F_inc9m, F_inc7i, F_inc7r, F_inc7m, T_icle, T_putI, T_putZ, T_getI, F_inc8i, F_inc8r, F_inc8m, F_il6, c218, c219, c227, c237, c238, ↓s218, ↓s219, ↓s237, FM F, ln_710, ln_711, ln_712, c0, c1, c2, show ¬ 10 * k0 + s.2.1 - 1 ≤ 10 * k0 + q by omega, TK, lt_run hn, le43, Int.le_refl, Int.lt_irrefl, Option.some.injEq, exists_eq_left', true_and, and_true, if_true, if_false, decide_eq_false_iff_not, decide_eq_true_eq, Nat.reduceAdd, Nat.reduceLeDiff, Nat.reduceLT, Int.reduceAdd, Int.reduceSub, Int.reduceMul, Int.reduceNeg, not_true_eq_false, not_false_eq_true]
    refine w238 F hn b1.1 b1.2 b2.1 b2.2 hx hy hr' (fun h2 e2 => ?_)
    have e2' : Ef Sl h1 h2 := e2.mono fun x k q => Or.inr q
    have L2 : LMl h2 (l ++ opn s (ght x y r s) q) := L1.ef e2 (fun a k _ _ => by omega)
    have C2 := fr (e1.trans e2')
    have eg : near (s.2.2.1 q) (s.2.2.2 q) (s.2.2.1 (q + 1)) (s.2.2.2 (q + 1)) x y r = ght x y r s q := rfl
    rw [eg]
    have ih' : ∀ v h2, _ := ih
    rw [ac, ← Int.add_assoc, ← Int.add_assoc] at ih'
    cases hg : ght x y r s q with
    | true =>
      have hb1 : b01 (ght x y r s q) = 1 := by rw [hg]; rfl
      have es := erS_s (s := s) (H := ght x y r s) q0
      rw [hg] at es
      have eb0 : (erS s (ght x y r s) (q + 1).toNat).2 = q + 1 := by rw [es]; rfl
      rw [hb1, opn_h q0 hg, eb0, decide_eq_false (show ¬ q + 1 < q + 1 by omega)] at ih'
      simp +decide (maxSteps := 4000000) (disch := omega) only [k236_0, k236_1, k236_2, k236_6, k236_7, k236_8, k236_9, k236_10, k236_13, k236_14, k236_r, k236_s, F_il1, J_ifeq, F_il2, F_il3, F_il4, T_I, J_ifne, T_ft, T_ret, F_is5i, F_is5r, F_is5m, F_is6i, F_is6r, F_is6m, T_mul, F_is7i, F_is7r, F_is7m, F_il7, F_al0, T_getR, X_iald, T_add, T_icge, F_is8i, F_is8r, F_is8m, F_is9i, F_is9r, F_is9m, F_il9, T_sub, F_inc6i, F_inc6r, F_inc6m, T_goto, F_il8, F_il5, T_iast, F_inc5i, F_inc5r, F_inc5m, F_is10i, F_is10r, F_is10m, F_il10, T_dup2, F_inc9i, F_inc9r, F_inc9m, F_inc7i, F_inc7r, F_inc7m, T_icle, T_putI, T_putZ, T_getI, F_inc8i, F_inc8r, F_inc8m, F_il6, c218, c219, c227, c237, c238, ↓s218, ↓s219, ↓s237, Bz_t, TK, lt_run hn, le43, Int.le_refl, Int.lt_irrefl, Option.some.injEq, exists_eq_left', true_and, and_true, if_true, if_false, decide_eq_false_iff_not, decide_eq_true_eq, Nat.reduceAdd, Nat.reduceLeDiff, Nat.reduceLT, Int.reduceAdd, Int.reduceSub, Int.reduceMul, Int.reduceNeg, not_true_eq_false, not_false_eq_true]
      exact ih' _ h2 ⟨e1.trans e2', L2⟩
    | false =>
      have hb1 : b01 (ght x y r s q) = 0 := by rw [hg]; rfl
      have es := erS_s (s := s) (H := ght x y r s) q0
      rw [hg] at es
      have eb0 : erS s (ght x y r s) (q + 1).toNat = erS s (ght x y r s) q.toNat := es
      rw [hb1, eb0, decide_eq_true (show (erS s (ght x y r s) q.toNat).2 < q + 1 by omega), Int.add_zero] at ih'
      simp +decide (maxSteps := 4000000) (disch := omega) only [k236_0, k236_1, k236_2, k236_6, k236_7, k236_8, k236_9, k236_10, k236_13, k236_14, k236_r, k236_s, F_il1, J_ifeq, F_il2, F_il3, F_il4, T_I, J_ifne, T_ft, T_ret, F_is5i, F_is5r, F_is5m, F_is6i, F_is6r, F_is6m, T_mul, F_is7i, F_is7r, F_is7m, F_il7, F_al0, T_getR, X_iald, T_add, T_icge, F_is8i, F_is8r, F_is8m, F_is9i, F_is9r, F_is9m, F_il9, T_sub, F_inc6i, F_inc6r, F_inc6m, T_goto, F_il8, F_il5, T_iast, F_inc5i, F_inc5r, F_inc5m, F_is10i, F_is10r, F_is10m, F_il10, T_dup2, F_inc9i, F_inc9r, F_inc9m, F_inc7i, F_inc7r, F_inc7m, T_icle, T_putI, T_putZ, T_getI, F_inc8i, F_inc8r, F_inc8m, F_il6, c218, c219, c227, c237, c238, ↓s218, ↓s219, ↓s237, Bz_f, TK, lt_run hn, le43, Int.le_refl, Int.lt_irrefl, Option.some.injEq, exists_eq_left', true_and, and_true, if_true, if_false, decide_eq_false_iff_not, decide_eq_true_eq, Nat.reduceAdd, Nat.reduceLeDiff, Nat.reduceLT, Int.reduceAdd, Int.reduceSub, Int.reduceMul, Int.reduceNeg, not_true_eq_false, not_false_eq_true]
      by_cases g : (erS s (ght x y r s) q.toNat).2 < q
      · obtain ⟨o1, o2⟩ := opn_o (s := s) q0 hg g
        rw [o2] at ih'
        rw [o1, ← List.append_assoc] at L2
        rw [o1, decide_eq_true g]
        rw [k236_5]
        simp +decide (maxSteps := 4000000) (disch := omega) only [k236_0, k236_1, k236_2, k236_5, k236_7, k236_8, k236_9, k236_10, k236_13, k236_14, k236_r, k236_s, F_il1, J_ifeq, F_il2, F_il3, F_il4, T_I, J_ifne, T_ft, T_ret, F_is5i, F_is5r, F_is5m, F_is6i, F_is6r, F_is6m, T_mul, F_is7i, F_is7r, F_is7m, F_il7, F_al0, T_getR, X_iald, T_add, T_icge, F_is8i, F_is8r, F_is8m, F_is9i, F_is9r, F_is9m, F_il9, T_sub, F_inc6i, F_inc6r, F_inc6m, T_goto, F_il8, F_il5, T_iast, F_inc5i, F_inc5r, F_inc5m, F_is10i, F_is10r, F_is10m, F_il10, T_dup2, F_inc9i, F_inc9r, F_inc9m, F_inc7i, F_inc7r, F_inc7m, T_icle, T_putI, T_putZ, T_getI, F_inc8i, F_inc8r, F_inc8m, F_il6, c218, c219, c227, c237, c238, ↓s218, ↓s219, ↓s237, Bz_t, TK, lt_run hn, le43, Int.le_refl, Int.lt_irrefl, Option.some.injEq, exists_eq_left', true_and, and_true, if_true, if_false, decide_eq_false_iff_not, decide_eq_true_eq, Nat.reduceAdd, Nat.reduceLeDiff, Nat.reduceLT, Int.reduceAdd, Int.reduceSub, Int.reduceMul, Int.reduceNeg, not_true_eq_false, not_false_eq_true]
        have ll : ((l ++ ((erS s (ght x y r s) q.toNat).1 ++ [prt s (erS s (ght x y r s) q.toNat).2 q])).length : Int) = ((l ++ (erS s (ght x y r s) q.toNat).1).length : Int) + 1 := by simp only [List.length_append, List.length_cons, List.length_nil]; omega
        have ll2 : ((l ++ ((erS s (ght x y r s) q.toNat).1 ++ [prt s (erS s (ght x y r s) q.toNat).2 (q + 1)])).length : Int) = ((l ++ (erS s (ght x y r s) q.toNat).1).length : Int) + 1 := by simp only [List.length_append, List.length_cons, List.length_nil]; omega
        rw [ll]
        rw [ll2] at ih'
        refine e236 F hn R hk (by omega) (by omega) (by rw [List.length_append]; omega) C2 L2 _ (fun h3 v3 L3 e3 => ?_)
        rw [List.append_assoc] at L3
        simp +decide (maxSteps := 4000000) (disch := omega) only [k236_0, k236_1, k236_2, k236_5, k236_6, k236_7, k236_8, k236_9, k236_10, k236_13, k236_14, k236_r, k236_s, F_il1, J_ifeq, F_il2, F_il3, F_il4, T_I, J_ifne, T_ft, T_ret, F_is5i, F_is5r, F_is5m, F_is6i, F_is6r, F_is6m, T_mul, F_is7i, F_is7r, F_is7m, F_il7, F_al0, T_getR, X_iald, T_add, T_icge, F_is8i, F_is8r, F_is8m, F_is9i, F_is9r, F_is9m, F_il9, T_sub, F_inc6i, F_inc6r, F_inc6m, T_goto, F_il8, F_il5, T_iast, F_inc5i, F_inc5r, F_inc5m, F_is10i, F_is10r, F_is10m, F_il10, T_dup2, F_inc9i, F_inc9r, F_inc9m, F_inc7i, F_inc7r, F_inc7m, T_icle, T_putI, T_putZ, T_getI, F_inc8i, F_inc8r, F_inc8m, F_il6, c218, c219, c227, c237, c238, ↓s218, ↓s219, ↓s237, TK, lt_run hn, le43, Int.le_refl, Int.lt_irrefl, Option.some.injEq, exists_eq_left', true_and, and_true, if_true, if_false, decide_eq_false_iff_not, decide_eq_true_eq, Nat.reduceAdd, Nat.reduceLeDiff, Nat.reduceLT, Int.reduceAdd, Int.reduceSub, Int.reduceMul, Int.reduceNeg, not_true_eq_false, not_false_eq_true]
        exact ih' _ h3 ⟨(e1.trans e2').trans e3, L3⟩
      · obtain ⟨o1, o2⟩ := opn_n (s := s) q0 hg g
        rw [o2] at ih'
        rw [o1] at L2
        rw [o1, decide_eq_false g]
        have llen : (l ++ (erS s (ght x y r s) q.toNat).1).length < 70 := by rw [List.length_append]; omega
        have ll2 : ((l ++ ((erS s (ght x y r s) q.toNat).1 ++ [prt s q (q + 1)])).length : Int) = ((l ++ (erS s (ght x y r s) q.toNat).1).length : Int) + 1 := by simp only [List.length_append, List.length_cons, List.length_nil]; omega
        rw [ll2, ← List.append_assoc] at ih'
        generalize l ++ (erS s (ght x y r s) q.toNat).1 = l1 at *
        have d1 := C2.1.1
        have d2 := C2.2 q q0 (by omega)
        have d3 : gA (sA (sA h2 715 (l1.length : Int) (J s.1)) 716 (l1.length : Int) (J 1)) 711 (10 * k0 + q) = J (s.2.2.1 q) := by rw [gs_o (by decide), gs_o (by decide)]; exact d2.1
        have d4 : gA (sA (sA (sA h2 715 (l1.length : Int) (J s.1)) 716 (l1.length : Int) (J 1)) 717 (10 * (l1.length : Int)) (J (s.2.2.1 q))) 712 (10 * k0 + q) = J (s.2.2.2 q) := by rw [gs_o (by decide), gs_o (by decide), gs_o (by decide)]; exact d2.2
        rw [k236_5]
        simp +decide (maxSteps := 4000000) (disch := omega) only [k236_0, k236_1, k236_2, k236_5, k236_7, k236_8, k236_9, k236_10, k236_13, k236_14, k236_r, k236_s, F_il1, J_ifeq, F_il2, F_il3, F_il4, T_I, J_ifne, T_ft, T_ret, F_is5i, F_is5r, F_is5m, F_is6i, F_is6r, F_is6m, T_mul, F_is7i, F_is7r, F_is7m, F_il7, F_al0, T_getR, X_iald, T_add, T_icge, F_is8i, F_is8r, F_is8m, F_is9i, F_is9r, F_is9m, F_il9, T_sub, F_inc6i, F_inc6r, F_inc6m, T_goto, F_il8, F_il5, T_iast, F_inc5i, F_inc5r, F_inc5m, F_is10i, F_is10r, F_is10m, F_il10, T_dup2, F_inc9i, F_inc9r, F_inc9m, F_inc7i, F_inc7r, F_inc7m, T_icle, T_putI, T_putZ, T_getI, F_inc8i, F_inc8r, F_inc8m, F_il6, c218, c219, c227, c237, c238, ↓s218, ↓s219, ↓s237, FM F, Bz_f, ln_709, ln_711, ln_712, ln_715, ln_716, ln_717, ln_718, d1, d3, d4, TK, lt_run hn, le43, Int.le_refl, Int.lt_irrefl, Option.some.injEq, exists_eq_left', true_and, and_true, if_true, if_false, decide_eq_false_iff_not, decide_eq_true_eq, Nat.reduceAdd, Nat.reduceLeDiff, Nat.reduceLT, Int.reduceAdd, Int.reduceSub, Int.reduceMul, Int.reduceNeg, not_true_eq_false, not_false_eq_true]
        have e4 : Ef Sl h2 (sA (sA (sA (sA h2 715 (l1.length : Int) (J s.1)) 716 (l1.length : Int) (J 1)) 717 (10 * (l1.length : Int)) (J (s.2.2.1 q))) 718 (10 * (l1.length : Int)) (J (s.2.2.2 q))) := Ef.sA (Ef.sA (Ef.sA (Ef.sA Ef.refl (Or.inl (by decide))) (Or.inl (by decide))) (Or.inl (by decide))) (Or.inl (by decide))
        refine e236 F hn R hk (b := q) (by omega) (by omega) llen (fr ((e1.trans e2').trans e4)) (fun i st hst => ?_) _ (fun h3 v3 L3 e3 => ?_)
        · by_cases e : i < l1.length
          · obtain ⟨⟨a0, a1, a2⟩, a3⟩ := L2 i st (gC_a hst e)
            refine ⟨⟨a0, ?_, ?_⟩, fun j j0 j1 => ⟨?_, ?_⟩⟩
            · rw [gs_o (by decide), gs_o (by decide), gs_o (by decide), gs_k (by omega) (by omega) (by omega)]
              exact a1
            · rw [gs_o (by decide), gs_o (by decide), gs_k (by omega) (by omega) (by omega), gs_o (by decide)]
              exact a2
            · rw [gs_o (by decide), gs_k (by omega) (by omega) (by omega), gs_o (by decide), gs_o (by decide)]
              exact (a3 j j0 j1).1
            · rw [gs_k (by omega) (by omega) (by omega), gs_o (by decide), gs_o (by decide), gs_o (by decide)]
              exact (a3 j j0 j1).2
          · obtain ⟨rfl, rfl⟩ := gC_b hst e
            refine ⟨⟨?_, ?_, ?_⟩, fun j j0 j1 => ?_⟩
            · show q - q + 1 ≤ 10
              omega
            · rw [gs_o (by decide), gs_o (by decide), gs_o (by decide), gs_s]
              rfl
            · rw [gs_o (by decide), gs_o (by decide), gs_s]
              show J 1 = J (q - q + 1)
              rw [show q - q + 1 = 1 by omega]
            · have j1' : j < q - q + 1 := j1
              have ej : j = 0 := by omega
              subst ej
              show _ = J (s.2.2.1 (q + 0)) ∧ _ = J (s.2.2.2 (q + 0))
              rw [Int.add_zero, Int.add_zero]
              refine ⟨?_, ?_⟩
              · rw [gs_o (by decide), gs_s]
              · rw [gs_s]
        · simp +decide (maxSteps := 4000000) (disch := omega) only [k236_0, k236_1, k236_2, k236_5, k236_6, k236_7, k236_8, k236_9, k236_10, k236_13, k236_14, k236_r, k236_s, F_il1, J_ifeq, F_il2, F_il3, F_il4, T_I, J_ifne, T_ft, T_ret, F_is5i, F_is5r, F_is5m, F_is6i, F_is6r, F_is6m, T_mul, F_is7i, F_is7r, F_is7m, F_il7, F_al0, T_getR, X_iald, T_add, T_icge, F_is8i, F_is8r, F_is8m, F_is9i, F_is9r, F_is9m, F_il9, T_sub, F_inc6i, F_inc6r, F_inc6m, T_goto, F_il8, F_il5, T_iast, F_inc5i, F_inc5r, F_inc5m, F_is10i, F_is10r, F_is10m, F_il10, T_dup2, F_inc9i, F_inc9r, F_inc9m, F_inc7i, F_inc7r, F_inc7m, T_icle, T_putI, T_putZ, T_getI, F_inc8i, F_inc8r, F_inc8m, F_il6, c218, c219, c227, c237, c238, ↓s218, ↓s219, ↓s237, TK, lt_run hn, le43, Int.le_refl, Int.lt_irrefl, Option.some.injEq, exists_eq_left', true_and, and_true, if_true, if_false, decide_eq_false_iff_not, decide_eq_true_eq, Nat.reduceAdd, Nat.reduceLeDiff, Nat.reduceLT, Int.reduceAdd, Int.reduceSub, Int.reduceMul, Int.reduceNeg, not_true_eq_false, not_false_eq_true]
          exact ih' _ h3 ⟨((e1.trans e2').trans e4).trans e3, L3⟩
  · rintro v h1 ⟨e1, L1⟩
    have c0 := (fr e1).1.2
    have ep : opn s (ght x y r s) (s.2.1 - 1) = erP s (ght x y r s) := rfl
    rw [ep] at L1 ⊢
    rw [k236_4]
    simp +decide (maxSteps := 4000000) (disch := omega) only [k236_0, k236_1, k236_2, k236_5, k236_6, k236_7, k236_9, k236_10, k236_13, k236_14, k236_r, k236_s, F_il1, J_ifeq, F_il2, F_il3, F_il4, T_I, J_ifne, T_ft, T_ret, F_is5i, F_is5r, F_is5m, F_is6i, F_is6r, F_is6m, T_mul, F_is7i, F_is7r, F_is7m, F_il7, F_al0, T_getR, X_iald, T_add, T_icge, F_is8i, F_is8r, F_is8m, F_is9i, F_is9r, F_is9m, F_il9, T_sub, F_inc6i, F_inc6r, F_inc6m, T_goto, F_il8, F_il5, T_iast, F_inc5i, F_inc5r, F_inc5m, F_is10i, F_is10r, F_is10m, F_il10, T_dup2, F_inc9i, F_inc9r, F_inc9m, F_inc7i, F_inc7r, F_inc7m, T_icle, T_putI, T_putZ, T_getI, F_inc8i, F_inc8r, F_inc8m, F_il6, c218, c219, c227, c237, c238, ↓s218, ↓s219, ↓s237, FM F, ln_710, c0, show 10 * k0 + s.2.1 - 1 = 10 * k0 + (s.2.1 - 1) by omega, TK, lt_run hn, le43, Int.le_refl, Int.lt_irrefl, Option.some.injEq, exists_eq_left', true_and, and_true, if_true, if_false, decide_eq_false_iff_not, decide_eq_true_eq, Nat.reduceAdd, Nat.reduceLeDiff, Nat.reduceLT, Int.reduceAdd, Int.reduceSub, Int.reduceMul, Int.reduceNeg, not_true_eq_false, not_false_eq_true]
    exact k h1 _ _ L1 e1
end EU
