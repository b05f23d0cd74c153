/-! REGIONS: what is reached; the class's way -/
def bdr (p : Int) : Bool := decide (p % 48 = 0 ∨ p % 48 = 47 ∨ p < 48 ∨ 1488 ≤ p)
def fre (W : Int → Int) (p : Int) : Prop := 0 ≤ p ∧ p < 1536 ∧ W p = 0
def adj (p q : Int) : Prop := (q = p - 1 ∧ p % 48 ≠ 0) ∨ (q = p + 1 ∧ p % 48 ≠ 47) ∨ q = p - 48 ∨ q = p + 48
/-- p is reached from s -/
def Cn (W : Int → Int) (s p : Int) : Prop := ∀ X : Int → Prop, (fre W s → X s) → (∀ p q, X p → adj p q → fre W q → X q) → X p
def cnt (S : Int → Bool) : Int := acc (fun q => b01 (S q)) 1536
def setB (S : Int → Bool) (p : Int) : Int → Bool := fun q => if q = p then true else S q
theorem Cn.f {W : Int → Int} {s p : Int} (c : Cn W s p) : fre W p := c (fre W) (fun h => h) (fun _ _ _ _ h => h)
theorem Cn.s {W : Int → Int} {s : Int} (h : fre W s) : Cn W s s := fun _ h1 _ => h1 h
theorem Cn.n {W : Int → Int} {s p q : Int} (c : Cn W s p) (a : adj p q) (h : fre W q) : Cn W s q := fun X h1 h2 => h2 p q (c X h1 h2) a h
theorem b01_r (c : Bool) : 0 ≤ b01 c ∧ b01 c ≤ 1 := by cases c <;> decide
theorem cnt_r (S : Int → Bool) : 0 ≤ cnt S ∧ cnt S ≤ 1536 := by
  have := acc_r (f := fun q => b01 (S q)) (lo := 0) (hi := 1) (fun i => b01_r _) 1536
  unfold cnt
  omega
theorem setB_s (S : Int → Bool) (p : Int) : setB S p p = true := if_pos rfl
theorem setB_o {S : Int → Bool} {p q : Int} (h : q ≠ p) : setB S p q = S q := if_neg h
theorem setB_m {S : Int → Bool} {p q : Int} (h : S q = true) : setB S p q = true := by
  unfold setB
  split
  · rfl
  · exact h
theorem cnt_a {S : Int → Bool} {p : Int} (hp : 0 ≤ p) (hS : S p = false) : ∀ k : Nat, acc (fun q => b01 (setB S p q)) k = acc (fun q => b01 (S q)) k + if p < k then 1 else 0 := by
  intro k
  induction k with
  | zero =>
    rw [if_neg (by omega)]
    rfl
  | succ k ih =>
    show acc _ k + b01 (setB S p k) = (acc _ k + b01 (S k)) + _
    rw [ih]
    by_cases e : (k : Int) = p
    · rw [e, setB_s, hS, if_neg (by omega), if_pos (by omega)]
      show acc (fun q => b01 (S q)) k + 0 + 1 = acc (fun q => b01 (S q)) k + 0 + 1
      rfl
    · rw [setB_o e]
      by_cases g : p < k
      · rw [if_pos g, if_pos (by omega)]
        omega
      · rw [if_neg g, if_neg (by omega)]
        omega
theorem cnt_set {S : Int → Bool} {p : Int} (hp : 0 ≤ p ∧ p < 1536) (hS : S p = false) : cnt (setB S p) = cnt S + 1 := by
  unfold cnt
  rw [cnt_a hp.1 hS, if_pos (by omega)]
theorem cnt_f {S : Int → Bool} {p : Int} (hp : 0 ≤ p ∧ p < 1536) (hS : S p = false) : cnt S < 1536 := by
  have h1 := cnt_set hp hS
  have h2 := cnt_r (setB S p)
  omega
theorem acc_e {f g : Int → Int} : ∀ k : Nat, (∀ i : Int, 0 ≤ i → i < k → f i = g i) → acc f k = acc g k := by
  intro k
  induction k with
  | zero => exact fun _ => rfl
  | succ k ih =>
    intro h
    show acc f k + f k = acc g k + g k
    rw [ih (fun i h1 h2 => h i h1 (by omega)), h k (by omega) (by omega)]
theorem cnt_e {S T : Int → Bool} (h : ∀ q, 0 ≤ q → q < 1536 → S q = T q) : cnt S = cnt T := acc_e 1536 (fun i h1 h2 => by rw [h i h1 (by omega)])
theorem cnt_0 : cnt (fun _ => false) = 0 := by
  have : ∀ k : Nat, acc (fun _ => b01 false) k = 0 := by
    intro k
    induction k with
    | zero => rfl
    | succ k ih => show acc _ k + b01 false = 0; rw [ih]; rfl
  exact this 1536
theorem jz1 : (J 1 = 0 ∨ J 1 = 1) = True := eq_true (Or.inr rfl)
theorem jz0 : (J 0 = 0 ∨ J 0 = 1) = True := eq_true (Or.inl rfl)
/-- what the class holds of a region under way -/
def RC (W : Int → Int) (s : Int) (h : AHi) (S : Int → Bool) (R : Int → Int) : Prop := (h 78 4 = J (cnt S) ∧ ∃ o, h 78 5 = Bz o ∧ (o = true ↔ ∃ p, S p = true ∧ bdr p = true)) ∧ (∀ p, 0 ≤ p → p < 1536 → gA h 81 p = J (if S p = true then 100 else W p)) ∧ (∀ i, 0 ≤ i → i < cnt S → gA h 82 i = J (R i) ∧ S (R i) = true) ∧ ∀ p, S p = true → Cn W s p ∧ ∃ i, 0 ≤ i ∧ i < cnt S ∧ R i = p
def Srg (a k : Nat) : Prop := a = 81 ∨ a = 82 ∨ (a = 78 ∧ (k = 4 ∨ k = 5))
/-- how a region grows -/
def RG (W : Int → Int) (S S' : Int → Bool) (R R' : Int → Int) : Prop := (∀ q, S q = true → S' q = true) ∧ (∀ i, 0 ≤ i → i < cnt S → R' i = R i) ∧ cnt S ≤ cnt S'
theorem RG.refl {W : Int → Int} {S : Int → Bool} {R : Int → Int} : RG W S S R R := ⟨fun _ h => h, fun _ _ _ => rfl, Int.le_refl _⟩
theorem RG.trans {W : Int → Int} {S S' S'' : Int → Bool} {R R' R'' : Int → Int} (a : RG W S S' R R') (b : RG W S' S'' R' R'') : RG W S S'' R R'' := ⟨fun q h => b.1 q (a.1 q h), fun i h1 h2 => (b.2.1 i h1 (by have := a.2.2; omega)).trans (a.2.1 i h1 h2), Int.le_trans a.2.2 b.2.2⟩
section FL
variable {E : AEn} {h h' : AHi} {hr : AHr} {n : Nat} {Q : ARs → Prop} {f : Int → Int} {l : List (Int × Int)} {g s : Int} {W : Int → Int} {S : Int → Bool} {R : Int → Int}
theorem w36 (F : FH hr) (hn : 775 ≤ n) (hW : ∀ q, 0 ≤ W q ∧ W q ≤ 15) (C : RC W s h S R) {p : Int} (hp : -100 ≤ p ∧ p ≤ 2000) (hc : fre W p → Cn W s p)
    (k : ∀ h' S' R', RC W s h' S' R' → RG W S S' R R' → (fre W p → S' p = true) → Ef Srg h h' → Q (none, h', hr, n)) : Sp E 36 [.ref 78, .int (J p)] h hr n Q := by
  have C0 := C
  obtain ⟨⟨c1, o, c2, c3⟩, c4, c5, c6⟩ := C
  have cr := cnt_r S
  by_cases g1 : p < 0
  · simp +decide (maxSteps := 4000000) (disch := omega) only [k36_0, k36_1, k36_2, k36_r, k36_s, F_il1, J_iflt, T_I, T_icge, F_al0, T_getI, T_getR, X_iald, J_ifne, T_iast, T_dupI, T_dupR, T_add, T_putI, T_putZ, T_rem, F_is2i, F_is2r, F_is2m, F_il2, J_ifeq, T_iceq, T_iclt, T_ft, T_ret, FX F, g1, TK, lt_run hn, le43, Int.le_refl, Int.lt_irrefl, Option.some.injEq, exists_eq_left', true_and, and_true, if_true, if_false, decide_eq_false_iff_not, decide_eq_true_eq, Nat.reduceAdd, Nat.reduceLeDiff, Nat.reduceLT, Int.reduceAdd, Int.reduceSub, Int.reduceMul, Int.reduceNeg, not_true_eq_false, not_false_eq_true]
    exact k h S R C0 RG.refl (fun q => by have := q.1; omega) Ef.refl
  by_cases g2 : 1536 ≤ p
  · simp +decide (maxSteps := 4000000) (disch := omega) only [k36_0, k36_1, k36_2, k36_r, k36_s, F_il1, J_iflt, T_I, T_icge, F_al0, T_getI, T_getR, X_iald, J_ifne, T_iast, T_dupI, T_dupR, T_add, T_putI, T_putZ, T_rem, F_is2i, F_is2r, F_is2m, F_il2, J_ifeq, T_iceq, T_iclt, T_ft, T_ret, FX F, g1, g2, TK, lt_run hn, le43, Int.le_refl, Int.lt_irrefl, Option.some.injEq, exists_eq_left', true_and, and_true, if_true, if_false, decide_eq_false_iff_not, decide_eq_true_eq, Nat.reduceAdd, Nat.reduceLeDiff, Nat.reduceLT, Int.reduceAdd, Int.reduceSub, Int.reduceMul, Int.reduceNeg, not_true_eq_false, not_false_eq_true]
    exact k h S R C0 RG.refl (fun q => by have := q.2.1; omega) Ef.refl
  by_cases g3 : 1536 ≤ cnt S
  · simp +decide (maxSteps := 4000000) (disch := omega) only [k36_0, k36_1, k36_2, k36_r, k36_s, F_il1, J_iflt, T_I, T_icge, F_al0, T_getI, T_getR, X_iald, J_ifne, T_iast, T_dupI, T_dupR, T_add, T_putI, T_putZ, T_rem, F_is2i, F_is2r, F_is2m, F_il2, J_ifeq, T_iceq, T_iclt, T_ft, T_ret, FX F, g1, g2, c1, g3, TK, lt_run hn, le43, Int.le_refl, Int.lt_irrefl, Option.some.injEq, exists_eq_left', true_and, and_true, if_true, if_false, decide_eq_false_iff_not, decide_eq_true_eq, Nat.reduceAdd, Nat.reduceLeDiff, Nat.reduceLT, Int.reduceAdd, Int.reduceSub, Int.reduceMul, Int.reduceNeg, not_true_eq_false, not_false_eq_true]
    refine k h S R C0 RG.refl (fun q => ?_) Ef.refl
    cases e : S p with
    | true => rfl
    | false =>
      have := cnt_f (p := p) (by omega) e
      omega
  have c7 := c4 p (by omega) (by omega)
  have hw := hW p
  cases e : S p with
  | true =>
    rw [e, if_pos rfl] at c7
    simp +decide (maxSteps := 4000000) (disch := omega) only [k36_0, k36_1, k36_2, k36_r, k36_s, F_il1, J_iflt, T_I, T_icge, F_al0, T_getI, T_getR, X_iald, J_ifne, T_iast, T_dupI, T_dupR, T_add, T_putI, T_putZ, T_rem, F_is2i, F_is2r, F_is2m, F_il2, J_ifeq, T_iceq, T_iclt, T_ft, T_ret, FX F, g1, g2, c1, c7, g3, ln_81, TK, lt_run hn, le43, Int.le_refl, Int.lt_irrefl, Option.some.injEq, exists_eq_left', true_and, and_true, if_true, if_false, decide_eq_false_iff_not, decide_eq_true_eq, Nat.reduceAdd, Nat.reduceLeDiff, Nat.reduceLT, Int.reduceAdd, Int.reduceSub, Int.reduceMul, Int.reduceNeg, not_true_eq_false, not_false_eq_true]
    exact k h S R C0 RG.refl (fun _ => e) Ef.refl
  | false =>
    rw [e, if_neg (by decide)] at c7
    by_cases g4 : W p = 0
    case neg =>
      simp +decide (maxSteps := 4000000) (disch := omega) only [k36_0, k36_1, k36_2, k36_r, k36_s, F_il1, J_iflt, T_I, T_icge, F_al0, T_getI, T_getR, X_iald, J_ifne, T_iast, T_dupI, T_dupR, T_add, T_putI, T_putZ, T_rem, F_is2i, F_is2r, F_is2m, F_il2, J_ifeq, T_iceq, T_iclt, T_ft, T_ret, FX F, g1, g2, c1, c7, g3, g4, ln_81, TK, lt_run hn, le43, Int.le_refl, Int.lt_irrefl, Option.some.injEq, exists_eq_left', true_and, and_true, if_true, if_false, decide_eq_false_iff_not, decide_eq_true_eq, Nat.reduceAdd, Nat.reduceLeDiff, Nat.reduceLT, Int.reduceAdd, Int.reduceSub, Int.reduceMul, Int.reduceNeg, not_true_eq_false, not_false_eq_true]
      exact k h S R C0 RG.refl (fun q => absurd q.2.2 g4) Ef.refl
    rw [g4] at c7
    have fr : fre W p := ⟨by omega, by omega, g4⟩
    have e2 : ∀ v, sA h 81 p v 78 4 = J (cnt S) := fun v => by rw [sA_o (by decide)]; exact c1
    have e3 : ∀ v w, sA (sA h 81 p v) 82 (cnt S) w 78 4 = J (cnt S) := fun v w => by rw [sA_o (by decide)]; exact e2 v
    have cs := cnt_set (S := S) (p := p) (by omega) e
    have rg : RG W S (setB S p) R (fun i => if i = cnt S then p else R i) := ⟨fun q h => setB_m h, fun i h1 h2 => if_neg (by omega), by omega⟩
    have core : ∀ h2 : AHi, h2 81 = sA h 81 p (J 100) 81 → h2 82 = sA h 82 (cnt S) (J p) 82 → h2 78 4 = J (cnt S + 1) → (∃ o, h2 78 5 = Bz o ∧ (o = true ↔ ∃ q, setB S p q = true ∧ bdr q = true)) → RC W s h2 (setB S p) (fun i => if i = cnt S then p else R i) := fun h2 a1 a2 a3 a4 => by
      refine ⟨⟨by rw [cs]; exact a3, a4⟩, fun q q0 q1 => ?_, fun i i0 i1 => ?_, fun q hq => ?_⟩
      · have : gA h2 81 q = gA (sA h 81 p (J 100)) 81 q := congrFun a1 _
        rw [this]
        by_cases g : q = p
        · rw [g, gs_s, setB_s, if_pos rfl]
        · rw [gs_k (by omega) q0 g, setB_o g]
          exact c4 q q0 q1
      · have : gA h2 82 i = gA (sA h 82 (cnt S) (J p)) 82 i := congrFun a2 _
        rw [this]
        dsimp only
        by_cases g : i = cnt S
        · rw [if_pos g, g, gs_s]
          exact ⟨rfl, setB_s S p⟩
        · rw [if_neg g, gs_k (by omega) i0 g]
          have := c5 i i0 (by omega)
          exact ⟨this.1, setB_m this.2⟩
      · by_cases g : q = p
        · rw [g]
          exact ⟨hc fr, cnt S, by omega, by omega, if_pos rfl⟩
        · rw [setB_o g] at hq
          obtain ⟨d1, i, d2, d3, d4⟩ := c6 q hq
          exact ⟨d1, i, d2, by omega, by dsimp only; rw [if_neg (by omega)]; exact d4⟩
    have kY : bdr p = false → Q (none, hI (sA (sA h 81 p (J 100)) 82 (cnt S) (J p)) 78 4 (J (cnt S + 1)), hr, n) := fun b => by
      refine k _ _ _ (core _ ?_ ?_ hI_s ⟨o, ?_, ?_⟩) rg (fun _ => setB_s S p) (Ef.hI (Ef.sA (Ef.sA Ef.refl (Or.inl rfl)) (Or.inr (Or.inl rfl))) (Or.inr (Or.inr ⟨rfl, Or.inl rfl⟩)))
      · rw [hI_o (by decide), sA_o (by decide)]
      · rw [hI_o (by decide)]
        unfold sA hI
        rw [va_up_self, va_up_self, va_up_ne _ _ (by decide)]
      · rw [hI_k (by decide), sA_o (by decide), sA_o (by decide)]
        exact c2
      · rw [c3]
        constructor
        · rintro ⟨q, q1, q2⟩
          exact ⟨q, setB_m q1, q2⟩
        · rintro ⟨q, q1, q2⟩
          by_cases g : q = p
          · rw [g, b] at q2
            cases q2
          · rw [setB_o g] at q1
            exact ⟨q, q1, q2⟩
    have kX : bdr p = true → Q (none, hI (hI (sA (sA h 81 p (J 100)) 82 (cnt S) (J p)) 78 4 (J (cnt S + 1))) 78 5 (J 1), hr, n) := fun b => by
      refine k _ _ _ (core _ ?_ ?_ ?_ ⟨true, ?_, ?_⟩) rg (fun _ => setB_s S p) (Ef.hI (Ef.hI (Ef.sA (Ef.sA Ef.refl (Or.inl rfl)) (Or.inr (Or.inl rfl))) (Or.inr (Or.inr ⟨rfl, Or.inl rfl⟩))) (Or.inr (Or.inr ⟨rfl, Or.inr rfl⟩)))
      · rw [hI_o (by decide), hI_o (by decide), sA_o (by decide)]
      · rw [hI_o (by decide), hI_o (by decide)]
        unfold sA hI
        rw [va_up_self, va_up_self, va_up_ne _ _ (by decide)]
      · rw [hI_k (by decide), hI_s]
      · rw [hI_s]
        rfl
      · exact ⟨fun _ => ⟨p, setB_s S p, b⟩, fun _ => rfl⟩
    simp +decide (maxSteps := 4000000) (disch := omega) only [k36_0, k36_1, k36_2, k36_r, k36_s, F_il1, J_iflt, T_I, T_icge, F_al0, T_getI, T_getR, X_iald, J_ifne, T_iast, T_dupI, T_dupR, T_add, T_putI, T_putZ, T_rem, F_is2i, F_is2r, F_is2m, F_il2, J_ifeq, T_iceq, T_iclt, T_ft, T_ret, FX F, g1, g2, c1, c7, g3, e2, e3, ln_81, ln_82, J_remp, jz1, TK, lt_run hn, le43, Int.le_refl, Int.lt_irrefl, Option.some.injEq, exists_eq_left', true_and, and_true, if_true, if_false, decide_eq_false_iff_not, decide_eq_true_eq, Nat.reduceAdd, Nat.reduceLeDiff, Nat.reduceLT, Int.reduceAdd, Int.reduceSub, Int.reduceMul, Int.reduceNeg, not_true_eq_false, not_false_eq_true]
    repeat' split
    all_goals first | exact kX (by unfold bdr; exact decide_eq_true (by omega)) | exact kY (by unfold bdr; exact decide_eq_false (by omega))
/-- a region that is found: open, or closed -/
def RE (W : Int → Int) (s : Int) (S : Int → Bool) : Prop := (∃ p, S p = true ∧ bdr p = true) ∨ ((∀ p q, S p = true → adj p q → fre W q → S q = true) ∧ (fre W s → S s = true))
theorem w34 (F : FH hr) (hn : 775 ≤ n) (hg : 0 ≤ g ∧ g ≤ 8) (L : EC h l) (hl : l.length ≤ 16) (ho : ∀ e ∈ l, onP e.1 e.2) (P : PA h 79 f) (hf : ∀ q, 0 ≤ f q ∧ f q ≤ 15) (hs : 0 ≤ s ∧ s < 1536)
    (k : ∀ h' S R, RC (wlI f l g l.length) s h' S R → RE (wlI f l g l.length) s S → Ef Srg h h' → Q (none, h', hr, n)) : Sp E 34 [.ref 78, .int (J s), .int (J g)] h hr n Q := by
  simp +decide (maxSteps := 4000000) (disch := omega) only [k34_0, k34_2, k34_r, k34_s, F_al0, F_il2, T_I, T_putI, T_putZ, F_il1, F_is3i, F_is3r, F_is3m, T_ft, F_il3, T_icge, T_getI, J_ifne, T_getR, X_iald, F_is4i, F_is4r, F_is4m, F_il4, T_sub, T_add, F_inc3i, F_inc3r, F_inc3m, T_goto, T_ret, c35, c36, FX F, TK, lt_run hn, le43, Int.le_refl, Int.lt_irrefl, Option.some.injEq, exists_eq_left', true_and, and_true, if_true, if_false, decide_eq_false_iff_not, decide_eq_true_eq, Nat.reduceAdd, Nat.reduceLeDiff, Nat.reduceLT, Int.reduceAdd, Int.reduceSub, Int.reduceMul, Int.reduceNeg, not_true_eq_false, not_false_eq_true]
  refine w35 F hn hg L hl ho P (fun h1 P1 e1 => ?_)
  have hW := wlI_r (l := l) (g := g) hf l.length
  generalize wlI f l g l.length = W at *
  have e1' : Ef Srg h (hI (hI h1 78 4 (J 0)) 78 5 (J 0)) := Ef.hI (Ef.hI (e1.mono fun a k q => Or.inl q) (Or.inr (Or.inr ⟨rfl, Or.inl rfl⟩))) (Or.inr (Or.inr ⟨rfl, Or.inr rfl⟩))
  have C1 : RC W s (hI (hI h1 78 4 (J 0)) 78 5 (J 0)) (fun _ => false) (fun _ => 0) := by
    refine ⟨⟨?_, false, hI_s, ⟨fun q => (by cases q), fun ⟨p, q, _⟩ => (by cases q)⟩⟩, fun p p0 p1 => ?_, fun i i0 i1 => ?_, fun p q => (by cases q)⟩
    · rw [hI_k (by decide), hI_s, cnt_0]
    · rw [if_neg (show ¬ (fun _ : Int => false) p = true from Bool.false_ne_true), gA_o (by decide), gA_o (by decide)]
      exact P1 p p0 p1
    · rw [cnt_0] at i1
      omega
  simp +decide (maxSteps := 4000000) (disch := omega) only [k34_0, k34_2, k34_r, k34_s, F_al0, F_il2, T_I, T_putI, T_putZ, F_il1, F_is3i, F_is3r, F_is3m, T_ft, F_il3, T_icge, T_getI, J_ifne, T_getR, X_iald, F_is4i, F_is4r, F_is4m, F_il4, T_sub, T_add, F_inc3i, F_inc3r, F_inc3m, T_goto, T_ret, c35, c36, FX F, jz0, TK, lt_run hn, le43, Int.le_refl, Int.lt_irrefl, Option.some.injEq, exists_eq_left', true_and, and_true, if_true, if_false, decide_eq_false_iff_not, decide_eq_true_eq, Nat.reduceAdd, Nat.reduceLeDiff, Nat.reduceLT, Int.reduceAdd, Int.reduceSub, Int.reduceMul, Int.reduceNeg, not_true_eq_false, not_false_eq_true]
  refine w36 F hn hW C1 (by omega) Cn.s (fun h2 S2 R2 C2 G2 s2 e2 => ?_)
  simp +decide (maxSteps := 4000000) (disch := omega) only [k34_0, k34_2, k34_r, k34_s, F_al0, F_il2, T_I, T_putI, T_putZ, F_il1, F_is3i, F_is3r, F_is3m, T_ft, F_il3, T_icge, T_getI, J_ifne, T_getR, X_iald, F_is4i, F_is4r, F_is4m, F_il4, T_sub, T_add, F_inc3i, F_inc3r, F_inc3m, T_goto, T_ret, c35, c36, FX F, TK, lt_run hn, le43, Int.le_refl, Int.lt_irrefl, Option.some.injEq, exists_eq_left', true_and, and_true, if_true, if_false, decide_eq_false_iff_not, decide_eq_true_eq, Nat.reduceAdd, Nat.reduceLeDiff, Nat.reduceLT, Int.reduceAdd, Int.reduceSub, Int.reduceMul, Int.reduceNeg, not_true_eq_false, not_false_eq_true]
  refine T_for (σ := Value × Int) (fun i v => [.ref 78, .int (J s), .int (J g), .int (J i), v.1]) (fun i v h' => Ef Srg h h' ∧ ∃ S R, RC W s h' S R ∧ (fre W s → S s = true) ∧ i ≤ cnt S ∧ ∀ j, 0 ≤ j → j < i → ∀ q, adj (R j) q → fre W q → S q = true) 0 1536 ?_ ?_ 0 (a_mk, 0) h2 (by omega) (by omega) ⟨e1'.trans e2, S2, R2, C2, s2, (cnt_r S2).1, fun j _ _ => by omega⟩
  · rintro i ⟨v4, _⟩ h3 i0 i1 ⟨e3, S, R, C, a1, a2, a3⟩ ih
    dsimp only
    have C0 := C
    obtain ⟨⟨c1, o, c2, c3⟩, c4, c5, c6⟩ := C
    have cr := cnt_r S
    by_cases g1 : cnt S ≤ i
    · rw [k34_1]
      simp +decide (maxSteps := 4000000) (disch := omega) only [k34_0, k34_2, k34_r, k34_s, F_al0, F_il2, T_I, T_putI, T_putZ, F_il1, F_is3i, F_is3r, F_is3m, T_ft, F_il3, T_icge, T_getI, J_ifne, T_getR, X_iald, F_is4i, F_is4r, F_is4m, F_il4, T_sub, T_add, F_inc3i, F_inc3r, F_inc3m, T_goto, T_ret, c35, c36, FX F, c1, g1, show ¬ 1536 ≤ i by omega, TK, lt_run hn, le43, Int.le_refl, Int.lt_irrefl, Option.some.injEq, exists_eq_left', true_and, and_true, if_true, if_false, decide_eq_false_iff_not, decide_eq_true_eq, Nat.reduceAdd, Nat.reduceLeDiff, Nat.reduceLT, Int.reduceAdd, Int.reduceSub, Int.reduceMul, Int.reduceNeg, not_true_eq_false, not_false_eq_true]
      refine k h3 S R C0 (Or.inr ⟨fun p q hp ha hq => ?_, a1⟩) e3
      obtain ⟨_, j, j1, j2, j3⟩ := c6 p hp
      exact a3 j j1 (by omega) q (by rw [j3]; exact ha) hq
    cases ob : o with
    | true =>
      rw [ob] at c2
      rw [k34_1]
      simp +decide (maxSteps := 4000000) (disch := omega) only [k34_0, k34_2, k34_r, k34_s, F_al0, F_il2, T_I, T_putI, T_putZ, F_il1, F_is3i, F_is3r, F_is3m, T_ft, F_il3, T_icge, T_getI, J_ifne, T_getR, X_iald, F_is4i, F_is4r, F_is4m, F_il4, T_sub, T_add, F_inc3i, F_inc3r, F_inc3m, T_goto, T_ret, c35, c36, FX F, c1, c2, g1, Bz_t, show ¬ 1536 ≤ i by omega, TK, lt_run hn, le43, Int.le_refl, Int.lt_irrefl, Option.some.injEq, exists_eq_left', true_and, and_true, if_true, if_false, decide_eq_false_iff_not, decide_eq_true_eq, Nat.reduceAdd, Nat.reduceLeDiff, Nat.reduceLT, Int.reduceAdd, Int.reduceSub, Int.reduceMul, Int.reduceNeg, not_true_eq_false, not_false_eq_true]
      exact k h3 S R C0 (Or.inl (c3.mp ob)) e3
    | false =>
      rw [ob] at c2
      obtain ⟨d1, d2⟩ := c5 i i0 (by omega)
      have d3 := (c6 _ d2).1
      have d4 := d3.f
      have d5 : bdr (R i) = false := by
        cases q : bdr (R i) with
        | false => rfl
        | true =>
          have := c3.mpr ⟨_, d2, q⟩
          rw [ob] at this
          cases this
      unfold bdr at d5
      have d6 := of_decide_eq_false d5
      unfold fre at d4
      rw [k34_1]
      simp +decide (maxSteps := 4000000) (disch := omega) only [k34_0, k34_2, k34_r, k34_s, F_al0, F_il2, T_I, T_putI, T_putZ, F_il1, F_is3i, F_is3r, F_is3m, T_ft, F_il3, T_icge, T_getI, J_ifne, T_getR, X_iald, F_is4i, F_is4r, F_is4m, F_il4, T_sub, T_add, F_inc3i, F_inc3r, F_inc3m, T_goto, T_ret, c35, c36, FX F, c1, c2, g1, d1, ln_82, Bz_f, show ¬ 1536 ≤ i by omega, TK, lt_run hn, le43, Int.le_refl, Int.lt_irrefl, Option.some.injEq, exists_eq_left', true_and, and_true, if_true, if_false, decide_eq_false_iff_not, decide_eq_true_eq, Nat.reduceAdd, Nat.reduceLeDiff, Nat.reduceLT, Int.reduceAdd, Int.reduceSub, Int.reduceMul, Int.reduceNeg, not_true_eq_false, not_false_eq_true]
      refine w36 F hn hW C0 (by omega) (fun q => d3.n (Or.inl ⟨rfl, by omega⟩) q) (fun h4 S4 R4 C4 G4 b4 e4 => ?_)
      simp +decide (maxSteps := 4000000) (disch := omega) only [k34_0, k34_2, k34_r, k34_s, F_al0, F_il2, T_I, T_putI, T_putZ, F_il1, F_is3i, F_is3r, F_is3m, T_ft, F_il3, T_icge, T_getI, J_ifne, T_getR, X_iald, F_is4i, F_is4r, F_is4m, F_il4, T_sub, T_add, F_inc3i, F_inc3r, F_inc3m, T_goto, T_ret, c35, c36, FX F, TK, lt_run hn, le43, Int.le_refl, Int.lt_irrefl, Option.some.injEq, exists_eq_left', true_and, and_true, if_true, if_false, decide_eq_false_iff_not, decide_eq_true_eq, Nat.reduceAdd, Nat.reduceLeDiff, Nat.reduceLT, Int.reduceAdd, Int.reduceSub, Int.reduceMul, Int.reduceNeg, not_true_eq_false, not_false_eq_true]
      refine w36 F hn hW C4 (by omega) (fun q => d3.n (Or.inr (Or.inl ⟨rfl, by omega⟩)) q) (fun h5 S5 R5 C5 G5 b5 e5 => ?_)
      simp +decide (maxSteps := 4000000) (disch := omega) only [k34_0, k34_2, k34_r, k34_s, F_al0, F_il2, T_I, T_putI, T_putZ, F_il1, F_is3i, F_is3r, F_is3m, T_ft, F_il3, T_icge, T_getI, J_ifne, T_getR, X_iald, F_is4i, F_is4r, F_is4m, F_il4, T_sub, T_add, F_inc3i, F_inc3r, F_inc3m, T_goto, T_ret, c35, c36, FX F, TK, lt_run hn, le43, Int.le_refl, Int.lt_irrefl, Option.some.injEq, exists_eq_left', true_and, and_true, if_true, if_false, decide_eq_false_iff_not, decide_eq_true_eq, Nat.reduceAdd, Nat.reduceLeDiff, Nat.reduceLT, Int.reduceAdd, Int.reduceSub, Int.reduceMul, Int.reduceNeg, not_true_eq_false, not_false_eq_true]
      refine w36 F hn hW C5 (by omega) (fun q => d3.n (Or.inr (Or.inr (Or.inl rfl))) q) (fun h6 S6 R6 C6 G6 b6 e6 => ?_)
      simp +decide (maxSteps := 4000000) (disch := omega) only [k34_0, k34_2, k34_r, k34_s, F_al0, F_il2, T_I, T_putI, T_putZ, F_il1, F_is3i, F_is3r, F_is3m, T_ft, F_il3, T_icge, T_getI, J_ifne, T_getR, X_iald, F_is4i, F_is4r, F_is4m, F_il4, T_sub, T_add, F_inc3i, F_inc3r, F_inc3m, T_goto, T_ret, c35, c36, FX F, TK, lt_run hn, le43, Int.le_refl, Int.lt_irrefl, Option.some.injEq, exists_eq_left', true_and, and_true, if_true, if_false, decide_eq_false_iff_not, decide_eq_true_eq, Nat.reduceAdd, Nat.reduceLeDiff, Nat.reduceLT, Int.reduceAdd, Int.reduceSub, Int.reduceMul, Int.reduceNeg, not_true_eq_false, not_false_eq_true]
      refine w36 F hn hW C6 (by omega) (fun q => d3.n (Or.inr (Or.inr (Or.inr rfl))) q) (fun h7 S7 R7 C7 G7 b7 e7 => ?_)
      simp +decide (maxSteps := 4000000) (disch := omega) only [k34_0, k34_2, k34_r, k34_s, F_al0, F_il2, T_I, T_putI, T_putZ, F_il1, F_is3i, F_is3r, F_is3m, T_ft, F_il3, T_icge, T_getI, J_ifne, T_getR, X_iald, F_is4i, F_is4r, F_is4m, F_il4, T_sub, T_add, F_inc3i, F_inc3r, F_inc3m, T_goto, T_ret, c35, c36, FX F, TK, lt_run hn, le43, Int.le_refl, Int.lt_irrefl, Option.some.injEq, exists_eq_left', true_and, and_true, if_true, if_false, decide_eq_false_iff_not, decide_eq_true_eq, Nat.reduceAdd, Nat.reduceLeDiff, Nat.reduceLT, Int.reduceAdd, Int.reduceSub, Int.reduceMul, Int.reduceNeg, not_true_eq_false, not_false_eq_true]
      have G := ((G4.trans G5).trans G6).trans G7
      have b45 := G5.trans (G6.trans G7)
      refine ih (_, 0) h7 ⟨e3.trans (e4.trans (e5.trans (e6.trans e7))), S7, R7, C7, fun q => G.1 _ (a1 q), by have := G.2.2; omega, fun j j0 j1 q ha hq => ?_⟩
      rw [G.2.1 j j0 (by omega)] at ha
      by_cases e : j = i
      · rw [e] at ha
        rcases ha with ⟨q1, _⟩ | ⟨q1, _⟩ | q1 | q1
        · rw [q1] at hq ⊢
          exact b45.1 _ (b4 hq)
        · rw [q1] at hq ⊢
          exact (G6.trans G7).1 _ (b5 hq)
        · rw [q1] at hq ⊢
          exact G7.1 _ (b6 hq)
        · rw [q1] at hq ⊢
          exact b7 hq
      · exact G.1 _ (a3 j j0 (by omega) q ha hq)
  · rintro ⟨v4, _⟩ h3 ⟨e3, S, R, C, a1, a2, a3⟩
    dsimp only
    have cr := cnt_r S
    rw [k34_1]
    simp +decide (maxSteps := 4000000) (disch := omega) only [k34_0, k34_2, k34_r, k34_s, F_al0, F_il2, T_I, T_putI, T_putZ, F_il1, F_is3i, F_is3r, F_is3m, T_ft, F_il3, T_icge, T_getI, J_ifne, T_getR, X_iald, F_is4i, F_is4r, F_is4m, F_il4, T_sub, T_add, F_inc3i, F_inc3r, F_inc3m, T_goto, T_ret, c35, c36, FX F, TK, lt_run hn, le43, Int.le_refl, Int.lt_irrefl, Option.some.injEq, exists_eq_left', true_and, and_true, if_true, if_false, decide_eq_false_iff_not, decide_eq_true_eq, Nat.reduceAdd, Nat.reduceLeDiff, Nat.reduceLT, Int.reduceAdd, Int.reduceSub, Int.reduceMul, Int.reduceNeg, not_true_eq_false, not_false_eq_true]
    refine k h3 S R C (Or.inr ⟨fun p q hp ha hq => ?_, a1⟩) e3
    obtain ⟨_, j, j1, j2, j3⟩ := C.2.2.2 p hp
    exact a3 j j1 (by omega) q (by rw [j3]; exact ha) hq
end FL
