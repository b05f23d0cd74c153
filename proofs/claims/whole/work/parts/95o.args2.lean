/-! node: what is told, the reference's step -/
section AS
variable {E : AEn} {h h' : AHi} {hr : AHr} {n : Nat} {Q : ARs → Prop} {t p f m w e v c i : Int} {b V : Int → Int} {k : Nat} {R : Int × Int × (Int → Int)} {cs : List Int}
theorem thM (hb : ∀ i, 0 ≤ b i ∧ b i ≤ 255) (hp : 0 ≤ p) : (numM b t (thS c) (thL c v) (thH c m) p (-1)).2.2 = (thC b t c m v p (-1)).2.2 ∧ ((thC b t c m v p (-1)).2.2 = -1 → numM b t (thS c) (thL c v) (thH c m) p (-1) = thC b t c m v p (-1) ∧ (thL c v ≤ (thC b t c m v p (-1)).1 ∧ (thC b t c m v p (-1)).1 ≤ thH c m) ∧ p < (thC b t c m v p (-1)).2.1 ∧ (thC b t c m v p (-1)).2.1 ≤ t) := by
  unfold thC
  by_cases g : thS c = true
  · rw [g, if_pos rfl]
    exact int_rel hb hp
  · rw [Bool.eq_false_iff.mpr g, if_neg (by decide)]
    exact num_rel hb hp
theorem numM_v {bl : Bool} {lo hi : Int} : (numM b t bl lo hi p f).1 = lo ∨ (lo ≤ (numM b t bl lo hi p f).1 ∧ (numM b t bl lo hi p f).1 ≤ hi) := by
  unfold numM
  by_cases e : f = -1
  · rw [if_pos e]
    dsimp only
    generalize (bl && decide (bt b t p = 45)) = mi
    generalize (if mi = true then p + 1 else p) = a1
    generalize dgs b t 10 0 0 a1 (-1) = g
    generalize (if mi = true then -g.1 else g.1) = v
    repeat' split
    all_goals
      dsimp only
      omega
  · rw [if_neg e]
    exact Or.inl rfl
theorem w319 (F : FH hr) (hn : 775 ≤ n) (T : TpM h t b) {S : Bool} {lo hi : Int} (i0 : 0 ≤ i) (i5 : i ≤ 4) (p0 : 0 ≤ p) (p1 : p ≤ 1602) (p2 : f = -1 → p ≤ t) (hf : f = -1 ∨ 0 ≤ f ∧ f ≤ 1700) (hl : -900000000 ≤ lo ∧ lo ≤ 900000000) (hh : -900000000 ≤ hi ∧ hi ≤ 900000000) (A : Ag b t m R 766 (c :: cs) i p f h) (hS : thS c = S) (hH : thH c m = hi) (hL : f = -1 → ∀ v, (i = 0 → v = 0) → (0 < i → gA h 766 (i - 1) = J v ∧ -1000000000 < v ∧ v < 1000000000) → thL c v = lo)
    (kk : ∀ h' p' f', 0 ≤ p' → p' ≤ 1602 → (f' = -1 → p' ≤ t) → (f' = -1 ∨ 0 ≤ f' ∧ f' ≤ 1700) → Ef (fun a _ => a = 766) h h' → Ag b t m R 766 cs (i + 1) p' f' h' → (∃ v, (v = lo ∨ lo ≤ v ∧ v ≤ hi) ∧ gA h' 766 i = J v) → Q (none, MS h' p' f', hr, n)) : Sp E 319 [.ref 704, .int (J i), .int (Bz S), .int (J lo), .int (J hi)] (MS h p f) hr n Q := by
  have t1 := T.1
  have xb := x_b (b := b) (t := t) (f := f) (p := p) (c := 32) (by decide) p0
  have xf1 : xf b t 32 p f = -1 ∨ 0 ≤ xf b t 32 p f ∧ xf b t 32 p f ≤ 1700 := by
    by_cases q : f = -1
    · have := xb.2.2.2.2 q
      omega
    · rw [xb.2.2.2.1 q]
      exact hf
  have xp1 : 0 ≤ xp b t 32 p f ∧ xp b t 32 p f ≤ 1603 := by omega
  have nb := numM_b (t := t) (f := xf b t 32 p f) (p := xp b t 32 p f) T.2.1 T.1 S (lo := lo) (hi := hi) (by omega) (by omega) xf1
  have nv := numM_v (b := b) (t := t) (p := xp b t 32 p f) (f := xf b t 32 p f) (bl := S) (lo := lo) (hi := hi)
  simp +decide (maxSteps := 4000000) (disch := omega) only [k319_0, k319_r, k319_s, F_al0, T_I, T_getR, F_il1, F_il2, F_il3, F_il4, T_iast, T_ret, c220, c225, ↓reduceIte, TK, lt_run hn, le43, Int.le_refl, Int.lt_irrefl, Option.some.injEq, exists_eq_left', true_and, and_true, if_true, if_false, decide_eq_false_iff_not, decide_eq_true_eq, Nat.reduceAdd, Nat.reduceLeDiff, Nat.reduceLT, Int.reduceAdd, Int.reduceSub, Int.reduceMul, Int.reduceNeg, not_true_eq_false, not_false_eq_true]
  rw [x225 F hn T (by omega) (by omega) (by decide)]
  simp +decide (maxSteps := 4000000) (disch := omega) only [k319_0, k319_r, k319_s, F_al0, T_I, T_getR, F_il1, F_il2, F_il3, F_il4, T_iast, T_ret, c220, c225, FM F, ↓reduceIte, TK, lt_run hn, le43, Int.le_refl, Int.lt_irrefl, Option.some.injEq, exists_eq_left', true_and, and_true, if_true, if_false, decide_eq_false_iff_not, decide_eq_true_eq, Nat.reduceAdd, Nat.reduceLeDiff, Nat.reduceLT, Int.reduceAdd, Int.reduceSub, Int.reduceMul, Int.reduceNeg, not_true_eq_false, not_false_eq_true]
  rw [s220 F hn T (by omega) (by omega) (by omega) (by omega)]
  simp +decide (maxSteps := 4000000) (disch := omega) only [k319_0, k319_r, k319_s, F_al0, T_I, T_getR, F_il1, F_il2, F_il3, F_il4, T_iast, T_ret, c220, c225, FM F, ln_766, ↓reduceIte, TK, lt_run hn, le43, Int.le_refl, Int.lt_irrefl, Option.some.injEq, exists_eq_left', true_and, and_true, if_true, if_false, decide_eq_false_iff_not, decide_eq_true_eq, Nat.reduceAdd, Nat.reduceLeDiff, Nat.reduceLT, Int.reduceAdd, Int.reduceSub, Int.reduceMul, Int.reduceNeg, not_true_eq_false, not_false_eq_true]
  rw [MS_d (by decide)]
  have e1 : Ef (fun a _ => a = 766) h (sA h 766 i (J (numM b t S lo hi (xp b t 32 p f) (xf b t 32 p f)).1)) := Ef.refl.sA rfl
  by_cases q : f = -1
  · subst q
    rcases A with ⟨_, v, T0, r1, r2, r3, r4⟩ | A
    case inr => omega
    have el := hL rfl v r3 r4
    unfold ars at r1
    by_cases g : bt b t p = 32
    · have hin := bt_in (b := b) (t := t) (i := p) (by omega)
      have ep : xp b t 32 p (-1) = p + 1 := if_pos ⟨rfl, g⟩
      have ef : xf b t 32 p (-1) = -1 := if_pos ⟨rfl, g⟩
      have tm := thM (t := t) (c := c) (m := m) (v := v) (p := p + 1) T.2.1 (by omega)
      rw [hS, hH, el] at tm
      rw [if_pos g] at r1
      rw [ep, ef] at nb nv e1 ⊢
      by_cases g2 : (thC b t c m v (p + 1) (-1)).2.2 = -1
      · obtain ⟨tm1, tm2, tm3, tm4⟩ := tm.2 g2
        rw [if_pos g2] at r1
        rw [tm1] at nb nv e1 ⊢
        refine kk _ _ _ (by omega) (by omega) (fun _ => tm4) nb.2.1 e1 (Or.inl ⟨g2, _, _, r1, fun j j0 j1 => ?_, fun z => by omega, fun _ => ⟨by rw [show i + 1 - 1 = i by omega, gs_s], by omega⟩⟩) ⟨_, nv, gs_s⟩
        unfold upd1
        by_cases z : j = i
        · rw [z, gs_s, if_pos rfl]
        · rw [gs_k i0 j0 z, if_neg z]
          exact r2 j j0 (by omega)
      · rw [if_neg g2] at r1
        rw [← tm.1] at g2 r1
        refine kk _ _ _ (by omega) (by omega) (fun z => absurd z g2) nb.2.1 e1 (Or.inr ⟨nb.2.1.resolve_left g2, by rw [← r1]⟩) ⟨_, nv, gs_s⟩
    · have ef : xf b t 32 p (-1) = p := by
        unfold xf
        rw [if_neg (fun z => g z.2)]
        rfl
      have ep : xp b t 32 p (-1) = p := if_neg (fun z => g z.2)
      have f1 : p ≠ -1 := by omega
      have nf : numM b t S lo hi p p = (lo, p, p) := by
        unfold numM
        rw [if_neg f1]
      rw [if_neg g] at r1
      rw [ep, ef, nf] at nb nv e1 ⊢
      exact kk _ _ _ p0 p1 (fun z => absurd z f1) (by dsimp only; omega) e1 (Or.inr ⟨by dsimp only; omega, by rw [← r1]⟩) ⟨_, nv, gs_s⟩
  · have nf : numM b t S lo hi p f = (lo, p, f) := by
      unfold numM
      rw [if_neg q]
    rw [xp_f q, xf_f q, nf] at nb nv e1 ⊢
    rcases A with A | A
    · exact absurd A.1 q
    · exact kk _ _ _ p0 p1 (fun z => absurd z q) hf e1 (Or.inr A) ⟨_, nv, gs_s⟩
end AS
