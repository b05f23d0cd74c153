/-! speech: smoothing, the class -/
def jc (x : Int × Int) : Spl → Spl
  | [] => [x]
  | y :: ys => if x.1 = y.1 then (x.1, x.2 + y.2) :: ys else x :: y :: ys
def jn (L : Spl) : Spl := L.foldr jc []
theorem jc_p {x y : Int × Int} {ys : Spl} (g : x.1 = y.1) : jc x (y :: ys) = (x.1, x.2 + y.2) :: ys := if_pos g
theorem jc_n {x y : Int × Int} {ys : Spl} (g : ¬ x.1 = y.1) : jc x (y :: ys) = x :: y :: ys := if_neg g
def fsp : Spl → Spl × Spl
  | [] => ([], [])
  | x :: xs => if x.2 = 1 then ([], x :: xs) else (x :: (fsp xs).1, (fsp xs).2)
def bl : Spl → Spl
  | [] => []
  | [z] => [(z.1, z.2 + 1)]
  | z :: y :: zs => z :: bl (y :: zs)
def nx (P : Spl) : Spl → Spl
  | [] => P
  | [_] => bl P
  | _ :: y :: ys => P ++ (y.1, y.2 + 1) :: ys
def smth : Nat → Spl → Spl
  | 0, L => L
  | q + 1, L => if 2 ≤ L.length ∧ (fsp L).2 ≠ [] then smth q (jn (nx (fsp L).1 (fsp L).2)) else L
theorem snoc (l : Spl) : l = [] ∨ ∃ P x, l = P ++ [x] := by
  induction l with
  | nil => exact Or.inl rfl
  | cons a l ih =>
    right
    rcases ih with e | ⟨P, x, e⟩
    · exact ⟨[], a, by rw [e]; rfl⟩
    · exact ⟨a :: P, x, by rw [e]; rfl⟩
theorem bl_s (P : Spl) (z : Int × Int) : bl (P ++ [z]) = P ++ [(z.1, z.2 + 1)] := by
  induction P with
  | nil => rfl
  | cons a P ih =>
    cases P with
    | nil => rfl
    | cons c P =>
      show a :: bl (c :: P ++ [z]) = a :: (c :: P ++ [(z.1, z.2 + 1)])
      rw [ih]
theorem fsp_e (L : Spl) : (fsp L).1 ++ (fsp L).2 = L := by
  induction L with
  | nil => rfl
  | cons x L ih =>
    unfold fsp
    split
    · rfl
    · show x :: ((fsp L).1 ++ (fsp L).2) = x :: L
      rw [ih]
theorem fsp_u : ∀ (L : Spl) (j : Nat) (x : Int × Int), L[j]? = some x → x.2 = 1 → (∀ i y, i < j → L[i]? = some y → y.2 ≠ 1) → (fsp L).1.length = j ∧ ∃ S, (fsp L).2 = x :: S := by
  intro L
  induction L with
  | nil => intro j x h; rw [List.getElem?_nil] at h; exact absurd h (by simp only [reduceCtorEq, not_false_eq_true])
  | cons a L ih =>
    intro j x h1 h2 h3
    unfold fsp
    cases j with
    | zero =>
      rw [List.getElem?_cons_zero] at h1
      have e : a = x := Option.some.inj h1
      subst e
      rw [if_pos h2]
      exact ⟨rfl, L, rfl⟩
    | succ j =>
      rw [List.getElem?_cons_succ] at h1
      rw [if_neg (h3 0 a (by omega) List.getElem?_cons_zero)]
      obtain ⟨i1, i2⟩ := ih j x h1 h2 (fun i y q r => h3 (i + 1) y (by omega) (by rw [List.getElem?_cons_succ]; exact r))
      exact ⟨by show (fsp L).1.length + 1 = j + 1; rw [i1], i2⟩
theorem fsp_n : ∀ (L : Spl), (∀ (i : Nat) y, L[i]? = some y → y.2 ≠ 1) → (fsp L).2 = [] := by
  intro L
  induction L with
  | nil => intro _; rfl
  | cons a L ih =>
    intro h
    unfold fsp
    rw [if_neg (h 0 a List.getElem?_cons_zero)]
    exact ih (fun i y q => h (i + 1) y (by rw [List.getElem?_cons_succ]; exact q))
theorem fsp_1 : ∀ (L : Spl) x S, (fsp L).2 = x :: S → x.2 = 1 := by
  intro L
  induction L with
  | nil => intro x S h; exact absurd h (by unfold fsp; simp only [reduceCtorEq, not_false_eq_true])
  | cons a L ih =>
    intro x S h
    unfold fsp at h
    split at h
    · rename_i g
      have e : a = x := (List.cons.inj h).1
      rw [← e]
      exact g
    · exact ih x S h
/-- what joining keeps -/
theorem jc_k {x : Int × Int} {L : Spl} (hx : (0 ≤ x.1 ∧ x.1 ≤ 7) ∧ 1 ≤ x.2) (hL : ∀ y ∈ L, (0 ≤ y.1 ∧ y.1 ≤ 7) ∧ 1 ≤ y.2) : (∀ y ∈ jc x L, (0 ≤ y.1 ∧ y.1 ≤ 7) ∧ 1 ≤ y.2) ∧ lsm (jc x L) = x.2 + lsm L ∧ (jc x L).length ≤ L.length + 1 ∧ jc x L ≠ [] := by
  cases L with
  | nil =>
    refine ⟨fun y q => ?_, rfl, Nat.le_refl _, by unfold jc; simp only [ne_eq, reduceCtorEq, not_false_eq_true]⟩
    rw [List.mem_singleton.mp q]
    exact hx
  | cons z L =>
    have hz := hL z List.mem_cons_self
    have hr : ∀ y ∈ L, (0 ≤ y.1 ∧ y.1 ≤ 7) ∧ 1 ≤ y.2 := fun y q => hL y (List.mem_cons_of_mem z q)
    by_cases g : x.1 = z.1
    · rw [jc_p g]
      refine ⟨fun y q => ?_, ?_, ?_, by simp only [ne_eq, reduceCtorEq, not_false_eq_true]⟩
      · rcases List.mem_cons.mp q with e | q
        · rw [e]
          exact ⟨hx.1, by dsimp only; omega⟩
        · exact hr y q
      · show x.2 + z.2 + lsm L = x.2 + (z.2 + lsm L)
        omega
      · show L.length + 1 ≤ L.length + 1 + 1
        omega
    · rw [jc_n g]
      refine ⟨fun y q => ?_, rfl, Nat.le_refl _, by simp only [ne_eq, reduceCtorEq, not_false_eq_true]⟩
      rcases List.mem_cons.mp q with e | q
      · rw [e]
        exact hx
      · exact hL y q
theorem jn_k : ∀ (L : Spl), (∀ y ∈ L, (0 ≤ y.1 ∧ y.1 ≤ 7) ∧ 1 ≤ y.2) → (∀ y ∈ jn L, (0 ≤ y.1 ∧ y.1 ≤ 7) ∧ 1 ≤ y.2) ∧ lsm (jn L) = lsm L ∧ (jn L).length ≤ L.length ∧ (L ≠ [] → jn L ≠ []) := by
  intro L
  induction L with
  | nil => intro h; exact ⟨h, rfl, Nat.le_refl _, fun q => absurd rfl q⟩
  | cons x L ih =>
    intro h
    obtain ⟨a1, a2, a3, a4⟩ := ih (fun y q => h y (List.mem_cons_of_mem x q))
    obtain ⟨b1, b2, b3, b4⟩ := jc_k (x := x) (h x List.mem_cons_self) a1
    refine ⟨b1, ?_, ?_, fun _ => b4⟩
    · show lsm (jc x (jn L)) = x.2 + lsm L
      rw [b2, a2]
    · show (jc x (jn L)).length ≤ L.length + 1
      omega
theorem jn_Lg {L : Spl} {s : Int} (h : Lg L s) : Lg (jn L) s := by
  obtain ⟨a1, a2, a3, a4⟩ := jn_k L h.1
  exact ⟨a1, by rw [a2]; exact h.2.1, h.2.2⟩
/-- the next list, still good, and shorter -/
theorem nx_Lg {L P R : Spl} {s : Int} (h : Lg L s) (h2 : 2 ≤ L.length) (e : P ++ R = L) (hR : R ≠ []) (h1 : ∀ x S, R = x :: S → x.2 = 1) : Lg (nx P R) s ∧ (nx P R).length + 1 = L.length := by
  subst e
  obtain ⟨a1, a2, a3⟩ := h
  rw [lsm_a] at a2
  cases R with
  | nil => exact absurd rfl hR
  | cons x S =>
    have x1 := h1 x S rfl
    cases S with
    | nil =>
      rcases snoc P with e | ⟨P', z, e⟩
      · subst e
        exact absurd h2 (by show ¬ 2 ≤ 1; decide)
      · subst e
        have hz := a1 z (List.mem_append.mpr (Or.inl (List.mem_append.mpr (Or.inr (List.mem_singleton.mpr rfl)))))
        show Lg (bl (P' ++ [z])) s ∧ (bl (P' ++ [z])).length + 1 = (P' ++ [z] ++ [x]).length
        rw [bl_s]
        rw [lsm_a] at a2
        have a2' : lsm P' + (z.2 + 0) + (x.2 + 0) = s := a2
        refine ⟨⟨fun y q => ?_, ?_, a3⟩, ?_⟩
        · rcases List.mem_append.mp q with q | q
          · exact a1 y (List.mem_append.mpr (Or.inl (List.mem_append.mpr (Or.inl q))))
          · rw [List.mem_singleton.mp q]
            exact ⟨hz.1, by dsimp only; omega⟩
        · rw [lsm_a]
          show lsm P' + (z.2 + 1 + 0) = s
          omega
        · rw [List.length_append, List.length_append, List.length_append]
          rfl
    | cons y ys =>
      have hy := a1 y (List.mem_append.mpr (Or.inr (List.mem_cons_of_mem x List.mem_cons_self)))
      have a2' : lsm P + (x.2 + (y.2 + lsm ys)) = s := a2
      refine ⟨⟨fun w q => ?_, ?_, a3⟩, ?_⟩
      · rcases List.mem_append.mp q with q | q
        · exact a1 w (List.mem_append.mpr (Or.inl q))
        · rcases List.mem_cons.mp q with e | q
          · rw [e]
            exact ⟨hy.1, by dsimp only; omega⟩
          · exact a1 w (List.mem_append.mpr (Or.inr (List.mem_cons_of_mem x (List.mem_cons_of_mem y q))))
      · show lsm (P ++ (y.1, y.2 + 1) :: ys) = s
        rw [lsm_a]
        show lsm P + (y.2 + 1 + lsm ys) = s
        omega
      · show (P ++ (y.1, y.2 + 1) :: ys).length + 1 = (P ++ x :: y :: ys).length
        rw [List.length_append, List.length_append]
        rfl
section SM
variable {E : AEn} {h h' : AHi} {hr : AHr} {n : Nat} {Q : ARs → Prop} {a c : Nat}
theorem LPq_r {P S : Spl} {x : Int × Int} (p : LPq h a c (P ++ x :: S)) : gA h a (P.length : Int) = J x.1 ∧ gA h c (P.length : Int) = J x.2 := p P.length x (by rw [List.getElem?_append_right (Nat.le_refl _), Nat.sub_self]; rfl)
theorem LPq_w {P S : Spl} {x : Int × Int} {v : Int} (hac : a ≠ c) (p : LPq h a c (P ++ x :: S)) : LPq (sA h c (P.length : Int) (J v)) a c (P ++ (x.1, v) :: S) := fun i y q => by
  rw [gs_o hac]
  rcases Nat.lt_trichotomy i P.length with g | g | g
  · rw [List.getElem?_append_left g] at q
    rw [gs_k (by omega) (by omega) (by omega)]
    exact p i y (by rw [List.getElem?_append_left g]; exact q)
  · subst g
    rw [List.getElem?_append_right (Nat.le_refl _), Nat.sub_self] at q
    have e : (x.1, v) = y := Option.some.inj q
    rw [← e, gs_s]
    exact ⟨(LPq_r p).1, rfl⟩
  · rw [gs_k (by omega) (by omega) (by omega)]
    refine p i y ?_
    rw [List.getElem?_append_right (by omega)] at q ⊢
    obtain ⟨d, hd⟩ : ∃ d, i - P.length = d + 1 := ⟨i - P.length - 1, by omega⟩
    rw [hd, List.getElem?_cons_succ] at q ⊢
    exact q
theorem LPq_e {P S : Spl} {x : Int × Int} (hac : a ≠ c) (p : LPq h a c (P ++ x :: S)) : LPq (cpA (cpA h a (P.length + 1) a P.length S.length) c (P.length + 1) c P.length S.length) a c (P ++ S) := fun i y q => by
  have b1 : i < (P ++ S).length := by
    by_cases z : i < (P ++ S).length
    · exact z
    · rw [List.getElem?_eq_none (by omega)] at q
      exact absurd q (by simp only [reduceCtorEq, not_false_eq_true])
  rw [List.length_append] at b1
  rw [cp_go hac, cp_g (by omega) (by omega) (by omega) (by omega), cp_g (by omega) (by omega) (by omega) (by omega)]
  by_cases g : i < P.length
  · rw [List.getElem?_append_left g] at q
    rw [if_neg (by omega), if_neg (by omega), cp_go (Ne.symm hac)]
    exact p i y (by rw [List.getElem?_append_left g]; exact q)
  · rw [if_pos (by omega), if_pos (by omega), cp_go (Ne.symm hac), show (P.length : Int) + 1 + ((i : Int) - P.length) = ((i + 1 : Nat) : Int) by omega]
    refine p (i + 1) y ?_
    rw [List.getElem?_append_right (by omega)] at q ⊢
    rw [show i + 1 - P.length = (i - P.length) + 1 by omega, List.getElem?_cons_succ]
    exact q
def Ssd (a k : Nat) : Prop := a = 108 ∨ a = 109 ∨ (a = 105 ∧ k = 4)
/-- the class's sounds -/
def CS (h : AHi) (L : Spl) : Prop := h 105 4 = J L.length ∧ LPq h 108 109 L
theorem w75 (F : FH hr) (hn : 775 ≤ n) {P S : Spl} {x : Int × Int} (C : CS h (P ++ x :: S)) (hl : P.length + S.length ≤ 119) (k : ∀ h', CS h' (P ++ S) → Ef Ssd h h' → Q (none, h', hr, n)) : Sp E 75 [.ref 105, .int (J P.length)] h hr n Q := by
  obtain ⟨d1, d2⟩ := C
  have e0 : ((P ++ x :: S).length : Int) = P.length + S.length + 1 := by
    rw [List.length_append]
    show ((P.length + (S.length + 1) : Nat) : Int) = _
    omega
  rw [e0] at d1
  have q1 : a_ln E 108 = 120 := ln_108 E
  have q2 : a_ln E 109 = 120 := ln_109 E
  have z1 : cpA h 108 (P.length + 1) 108 P.length S.length 105 4 = J (P.length + S.length + 1) := by rw [cp_o (by decide)]; exact d1
  have z2 : cpA (cpA h 108 (P.length + 1) 108 P.length S.length) 109 (P.length + 1) 109 P.length S.length 105 4 = J (P.length + S.length + 1) := by rw [cp_o (by decide)]; exact z1
  have e1 : (P.length : Int) + S.length + 1 - P.length - 1 = S.length := by omega
  have e2 : (P.length : Int) + S.length + 1 - 1 = P.length + S.length := by omega
  simp +decide (maxSteps := 4000000) (disch := omega) only [k75_0, k75_r, k75_s, F_al0, T_getR, F_il1, T_I, T_add, T_getI, T_sub, J_cp, T_dupI, T_dupR, T_putI, T_putZ, T_ret, FX F, d1, z1, z2, e1, e2, kd_105, kd_108, kd_109, true_or, ↓reduceIte, TK, lt_run hn, le43, Int.le_refl, Int.lt_irrefl, Option.some.injEq, exists_eq_left', true_and, and_true, if_true, if_false, decide_eq_false_iff_not, decide_eq_true_eq, Nat.reduceAdd, Nat.reduceLeDiff, Nat.reduceLT, Int.reduceAdd, Int.reduceSub, Int.reduceMul, Int.reduceNeg, not_true_eq_false, not_false_eq_true]
  refine k _ ⟨?_, ?_⟩ (Ef.hI (cp_e (cp_e Ef.refl (fun _ => Or.inl rfl)) (fun _ => Or.inr (Or.inl rfl))) (Or.inr (Or.inr ⟨rfl, rfl⟩)))
  · rw [hI_s, List.length_append]
    congr 1
  · exact (LPq_e (by decide) d2).ef (S := fun a _ => a = 105) (Ef.refl.hI rfl) (fun k => by decide) (fun k => by decide)
theorem w74 (F : FH hr) (hn : 775 ≤ n) {L : Spl} {s : Int} (C : CS h L) (G : Lg L s) (k : ∀ h', CS h' (jn L) → Ef Ssd h h' → Q (none, h', hr, n)) : Sp E 74 [.ref 105] h hr n Q := by
  have d1 := C.1
  have lg := Lg_len G
  simp +decide (maxSteps := 4000000) (disch := omega) only [k74_0, k74_2, k74_3, k74_r, k74_s, F_al0, T_getI, T_I, T_sub, F_is1i, F_is1r, F_is1m, T_ft, F_il1, J_ifle, T_getR, X_iald, J_icne, T_dup2, T_add, T_iast, F_inc1i, F_inc1r, F_inc1m, T_goto, T_ret, c75, FX F, d1, kd_105, ↓reduceIte, TK, lt_run hn, le43, Int.le_refl, Int.lt_irrefl, Option.some.injEq, exists_eq_left', true_and, and_true, if_true, if_false, decide_eq_false_iff_not, decide_eq_true_eq, Nat.reduceAdd, Nat.reduceLeDiff, Nat.reduceLT, Int.reduceAdd, Int.reduceSub, Int.reduceMul, Int.reduceNeg, not_true_eq_false, not_false_eq_true]
  rcases snoc L with e | ⟨P, x, e⟩
  · subst e
    have y0 : (([] : Spl).length : Int) - 1 ≤ 0 := by decide
    rw [k74_1]
    simp +decide (maxSteps := 4000000) (disch := omega) only [k74_0, k74_2, k74_3, k74_r, k74_s, F_al0, T_getI, T_I, T_sub, F_is1i, F_is1r, F_is1m, T_ft, F_il1, J_ifle, T_getR, X_iald, J_icne, T_dup2, T_add, T_iast, F_inc1i, F_inc1r, F_inc1m, T_goto, T_ret, c75, y0, ↓reduceIte, TK, lt_run hn, le43, Int.le_refl, Int.lt_irrefl, Option.some.injEq, exists_eq_left', true_and, and_true, if_true, if_false, decide_eq_false_iff_not, decide_eq_true_eq, Nat.reduceAdd, Nat.reduceLeDiff, Nat.reduceLT, Int.reduceAdd, Int.reduceSub, Int.reduceMul, Int.reduceNeg, not_true_eq_false, not_false_eq_true]
    exact k h C Ef.refl
  subst e
  have e0 : ((P ++ [x]).length : Int) - 1 = P.length := by
    rw [List.length_append]
    show ((P.length + 1 : Nat) : Int) - 1 = P.length
    omega
  rw [e0]
  refine T_wh (σ := Spl × Spl) (fun σ => [.ref 105, .int (J σ.1.length)]) (fun σ h' => Ef Ssd h h' ∧ CS h' (σ.1 ++ σ.2) ∧ Lg (σ.1 ++ σ.2) s ∧ σ.2 ≠ [] ∧ σ.1.foldr jc σ.2 = jn (P ++ [x])) (fun σ _ => σ.1.length) ?_ (P, [x]) h ⟨Ef.refl, C, G, by simp only [ne_eq, reduceCtorEq, not_false_eq_true], by unfold jn; rw [List.foldr_append]; rfl⟩
  rintro ⟨P1, M⟩ h1 ⟨e1, C1, G1, n1, f1⟩ ih
  dsimp only at C1 G1 n1 f1 ⊢
  rcases snoc P1 with e | ⟨P2, y, e⟩
  · subst e
    have f1' : M = jn (P ++ [x]) := f1
    have y0 : (([] : Spl).length : Int) ≤ 0 := by decide
    rw [k74_1]
    simp +decide (maxSteps := 4000000) (disch := omega) only [k74_0, k74_2, k74_3, k74_r, k74_s, F_al0, T_getI, T_I, T_sub, F_is1i, F_is1r, F_is1m, T_ft, F_il1, J_ifle, T_getR, X_iald, J_icne, T_dup2, T_add, T_iast, F_inc1i, F_inc1r, F_inc1m, T_goto, T_ret, c75, y0, ↓reduceIte, TK, lt_run hn, le43, Int.le_refl, Int.lt_irrefl, Option.some.injEq, exists_eq_left', true_and, and_true, if_true, if_false, decide_eq_false_iff_not, decide_eq_true_eq, Nat.reduceAdd, Nat.reduceLeDiff, Nat.reduceLT, Int.reduceAdd, Int.reduceSub, Int.reduceMul, Int.reduceNeg, not_true_eq_false, not_false_eq_true]
    refine k h1 ?_ e1
    rw [← f1']
    exact C1
  subst e
  cases M with
  | nil => exact absurd rfl n1
  | cons z M =>
    have lg1 := Lg_len G1
    have e2 : ((P2 ++ [y]).length : Int) = P2.length + 1 := by
      rw [List.length_append]
      rfl
    have e3 : (((P2 ++ [y]) ++ z :: M).length : Int) = P2.length + M.length + 2 := by
      rw [List.length_append, List.length_append]
      show ((P2.length + 1 + (M.length + 1) : Nat) : Int) = _
      omega
    rw [e3] at lg1
    have r1 := LPq_r C1.2
    rw [e2] at r1
    have C1' := C1
    rw [List.append_assoc] at C1'
    have r2 := LPq_r (P := P2) (x := y) (S := z :: M) C1'.2
    have by1 := G1.1 y (List.mem_append.mpr (Or.inl (List.mem_append.mpr (Or.inr (List.mem_singleton.mpr rfl)))))
    have bz1 := G1.1 z (List.mem_append.mpr (Or.inr List.mem_cons_self))
    have sy : y.2 + z.2 ≤ 120 := by
      have g1 := G1.2
      rw [lsm_a, lsm_a] at g1
      have g2 : lsm P2 + (y.2 + 0) + (z.2 + lsm M) = s ∧ s ≤ 120 := g1
      have g3 := lsm_l P2 (fun w q => G1.1 w (List.mem_append.mpr (Or.inl (List.mem_append.mpr (Or.inl q)))))
      have g4 := lsm_l M (fun w q => G1.1 w (List.mem_append.mpr (Or.inr (List.mem_cons_of_mem z q))))
      omega
    have e4 : (P2.length : Int) + 1 - 1 = P2.length := by omega
    have e7 : (P2.length : Int) + 1 + -1 = P2.length := by omega
    have f2 : P2.foldr jc (jc y (z :: M)) = jn (P ++ [x]) := by
      rw [← f1, List.foldr_append]
      rfl
    rw [e2]
    by_cases g : y.1 = z.1
    · have r1a := r1.1
      rw [← g] at r1a
      have W := LPq_w (v := y.2 + z.2) (by decide) C1'.2
      have C2 : CS (sA h1 109 P2.length (J (y.2 + z.2))) ((P2 ++ [(y.1, y.2 + z.2)]) ++ z :: M) := by
        refine ⟨?_, ?_⟩
        · rw [sA_o (by decide), C1.1, List.length_append, List.length_append, List.length_append, List.length_append]
          rfl
        · rw [List.append_assoc]
          exact W
      rw [k74_1]
      simp +decide (maxSteps := 4000000) (disch := omega) only [k74_0, k74_2, k74_3, k74_r, k74_s, F_al0, T_getI, T_I, T_sub, F_is1i, F_is1r, F_is1m, T_ft, F_il1, J_ifle, T_getR, X_iald, J_icne, T_dup2, T_add, T_iast, F_inc1i, F_inc1r, F_inc1m, T_goto, T_ret, c75, FX F, r1a, r1.2, r2, e4, kd_105, kd_108, kd_109, ln_108, ln_109, show ¬ (P2.length : Int) + 1 ≤ 0 by omega, ↓reduceIte, TK, lt_run hn, le43, Int.le_refl, Int.lt_irrefl, Option.some.injEq, exists_eq_left', true_and, and_true, if_true, if_false, decide_eq_false_iff_not, decide_eq_true_eq, Nat.reduceAdd, Nat.reduceLeDiff, Nat.reduceLT, Int.reduceAdd, Int.reduceSub, Int.reduceMul, Int.reduceNeg, not_true_eq_false, not_false_eq_true]
      have e5 : (P2.length : Int) + 1 = ((P2 ++ [(y.1, y.2 + z.2)]).length : Nat) := by
        rw [List.length_append]
        rfl
      rw [e5]
      refine w75 F hn C2 (by rw [List.length_append]; show P2.length + 1 + M.length ≤ 119; omega) (fun h2 C3 e6 => ?_)
      rw [← e5]
      simp +decide (maxSteps := 4000000) (disch := omega) only [k74_0, k74_2, k74_3, k74_r, k74_s, F_al0, T_getI, T_I, T_sub, F_is1i, F_is1r, F_is1m, T_ft, F_il1, J_ifle, T_getR, X_iald, J_icne, T_dup2, T_add, T_iast, F_inc1i, F_inc1r, F_inc1m, T_goto, T_ret, c75, e7, ↓reduceIte, TK, lt_run hn, le43, Int.le_refl, Int.lt_irrefl, Option.some.injEq, exists_eq_left', true_and, and_true, if_true, if_false, decide_eq_false_iff_not, decide_eq_true_eq, Nat.reduceAdd, Nat.reduceLeDiff, Nat.reduceLT, Int.reduceAdd, Int.reduceSub, Int.reduceMul, Int.reduceNeg, not_true_eq_false, not_false_eq_true]
      refine ih (P2, (y.1, y.2 + z.2) :: M) h2 ⟨e1.trans (Ef.trans (Ef.refl.sA (Or.inr (Or.inl rfl))) e6), ?_, ?_, by simp only [ne_eq, reduceCtorEq, not_false_eq_true], ?_⟩ (by dsimp only; rw [List.length_append]; show P2.length < P2.length + 1; omega)
      · dsimp only
        rw [List.append_assoc] at C3
        exact C3
      · dsimp only
        refine ⟨fun w q => ?_, ?_, G1.2.2⟩
        · rcases List.mem_append.mp q with q | q
          · exact G1.1 w (List.mem_append.mpr (Or.inl (List.mem_append.mpr (Or.inl q))))
          · rcases List.mem_cons.mp q with e | q
            · rw [e]
              exact ⟨by1.1, by dsimp only; omega⟩
            · exact G1.1 w (List.mem_append.mpr (Or.inr (List.mem_cons_of_mem z q)))
        · have g1 := G1.2.1
          rw [lsm_a, lsm_a] at g1
          have g2 : lsm P2 + (y.2 + 0) + (z.2 + lsm M) = s := g1
          rw [lsm_a]
          show lsm P2 + (y.2 + z.2 + lsm M) = s
          omega
      · dsimp only
        rw [← f2, jc_p g]
    · have g' : ¬ z.1 = y.1 := fun q => g q.symm
      rw [k74_1]
      simp +decide (maxSteps := 4000000) (disch := omega) only [k74_0, k74_2, k74_3, k74_r, k74_s, F_al0, T_getI, T_I, T_sub, F_is1i, F_is1r, F_is1m, T_ft, F_il1, J_ifle, T_getR, X_iald, J_icne, T_dup2, T_add, T_iast, F_inc1i, F_inc1r, F_inc1m, T_goto, T_ret, c75, FX F, r1, r2, e4, e7, g, g', kd_105, kd_108, kd_109, ln_108, ln_109, show ¬ (P2.length : Int) + 1 ≤ 0 by omega, ↓reduceIte, TK, lt_run hn, le43, Int.le_refl, Int.lt_irrefl, Option.some.injEq, exists_eq_left', true_and, and_true, if_true, if_false, decide_eq_false_iff_not, decide_eq_true_eq, Nat.reduceAdd, Nat.reduceLeDiff, Nat.reduceLT, Int.reduceAdd, Int.reduceSub, Int.reduceMul, Int.reduceNeg, not_true_eq_false, not_false_eq_true]
      refine ih (P2, y :: z :: M) h1 ⟨e1, C1', by rw [List.append_assoc] at G1; exact G1, by simp only [ne_eq, reduceCtorEq, not_false_eq_true], ?_⟩ (by dsimp only; rw [List.length_append]; show P2.length < P2.length + 1; omega)
      dsimp only
      rw [← f2, jc_n g]
end SM
