/-! erase: parts of strokes; the class's side -/
/-- the parts behind q SEGMENTS, and where the next begins -/
def erS (s : Stk) (H : Int → Bool) : Nat → List Stk × Int
  | 0 => ([], 0)
  | q + 1 => bif H q then ((erS s H q).1 ++ (if (erS s H q).2 < q then [prt s (erS s H q).2 q] else []), (q : Int) + 1) else erS s H q
def erP (s : Stk) (H : Int → Bool) : List Stk := (erS s H (s.2.1 - 1).toNat).1 ++ (if (erS s H (s.2.1 - 1).toNat).2 < s.2.1 - 1 then [prt s (erS s H (s.2.1 - 1).toNat).2 (s.2.1 - 1)] else [])
/-- whether a SEGMENT goes -/
def ght (x y r : Int) (s : Stk) (q : Int) : Bool := near (s.2.2.1 q) (s.2.2.2 q) (s.2.2.1 (q + 1)) (s.2.2.2 (q + 1)) x y r
def erD (x y r : Int) (D : Drw) : Nat → List Stk
  | 0 => []
  | k + 1 => erD x y r D k ++ erP (D.2 k) (ght x y r (D.2 k))
def b01 (c : Bool) : Int := bif c then 1 else 0
/-- how many went -/
def erG (x y r : Int) (D : Drw) : Int → Int := fun k => acc (fun q => b01 (ght x y r (D.2 k) q)) ((D.2 k).2.1 - 1).toNat
section ER
variable {E : AEn} {h h' : AHi} {hr : AHr} {n : Nat} {Q : ARs → Prop} {s : Stk} {H : Int → Bool} {S : Nat → Nat → Prop} {l : List Stk}
theorem erS_s {q : Int} (h : 0 ≤ q) : erS s H (q + 1).toNat = bif H q then ((erS s H q.toNat).1 ++ (if (erS s H q.toNat).2 < q then [prt s (erS s H q.toNat).2 q] else []), q + 1) else erS s H q.toNat := by
  rw [show (q + 1).toNat = q.toNat + 1 by omega]
  show (bif H (q.toNat : Int) then ((erS s H q.toNat).1 ++ (if (erS s H q.toNat).2 < (q.toNat : Int) then [prt s (erS s H q.toNat).2 (q.toNat : Int)] else []), (q.toNat : Int) + 1) else erS s H q.toNat) = _
  rw [Int.toNat_of_nonneg h]
theorem erS_b : ∀ q : Nat, 2 * (erS s H q).1.length ≤ (erS s H q).2 ∧ 0 ≤ (erS s H q).2 ∧ (erS s H q).2 ≤ q := by
  intro q
  induction q with
  | zero => exact ⟨Int.le_refl _, Int.le_refl _, Int.le_refl _⟩
  | succ q ih =>
    unfold erS
    cases H q with
    | false =>
      show 2 * (((erS s H q).1.length : Nat) : Int) ≤ (erS s H q).2 ∧ 0 ≤ (erS s H q).2 ∧ (erS s H q).2 ≤ ((q + 1 : Nat) : Int)
      omega
    | true =>
      show 2 * ((((erS s H q).1 ++ (if (erS s H q).2 < q then [prt s (erS s H q).2 q] else [])).length : Nat) : Int) ≤ (q : Int) + 1 ∧ 0 ≤ (q : Int) + 1 ∧ (q : Int) + 1 ≤ ((q + 1 : Nat) : Int)
      rw [List.length_append]
      split
      · simp only [List.length_cons, List.length_nil]
        omega
      · simp only [List.length_nil]
        omega
theorem erP_l (hp : s.2.1 ≤ 10) : (erP s H).length ≤ 5 := by
  have := erS_b (s := s) (H := H) (s.2.1 - 1).toNat
  unfold erP
  rw [List.length_append]
  split
  · simp only [List.length_cons, List.length_nil]
    omega
  · simp only [List.length_nil]
    omega
theorem prt_r (R : SR s) {u v : Int} (hu : 0 ≤ u) (huv : u < v) (hv : v < s.2.1) : SR (prt s u v) := by
  have r2 := R.2.1
  refine ⟨R.1, ⟨?_, ?_⟩, fun j => R.2.2 _⟩
  · show 2 ≤ v - u + 1
    omega
  · show v - u + 1 ≤ 10
    omega
theorem erS_r (R : SR s) : ∀ q : Nat, (q : Int) ≤ s.2.1 - 1 → ∀ st ∈ (erS s H q).1, SR st := by
  intro q
  induction q with
  | zero => intro _ st h; cases h
  | succ q ih =>
    intro hq st hst
    have b := erS_b (s := s) (H := H) q
    unfold erS at hst
    cases hH : H q with
    | false =>
      rw [hH] at hst
      exact ih (by omega) st hst
    | true =>
      rw [hH] at hst
      have hst' : st ∈ (erS s H q).1 ++ (if (erS s H q).2 < q then [prt s (erS s H q).2 q] else []) := hst
      rcases List.mem_append.mp hst' with q1 | q1
      · exact ih (by omega) st q1
      · split at q1
        · rw [List.mem_singleton] at q1
          rw [q1]
          exact prt_r R (by omega) (by omega) (by omega)
        · cases q1
theorem erP_r (R : SR s) : ∀ st ∈ erP s H, SR st := by
  have r2 := R.2.1
  intro st hst
  have b := erS_b (s := s) (H := H) (s.2.1 - 1).toNat
  unfold erP at hst
  rcases List.mem_append.mp hst with q1 | q1
  · exact erS_r R _ (by omega) st q1
  · split at q1
    · rw [List.mem_singleton] at q1
      rw [q1]
      exact prt_r R (by omega) (by omega) (by omega)
    · cases q1
theorem erD_s {x y r : Int} {D : Drw} {k : Int} (h : 0 ≤ k) : erD x y r D (k + 1).toNat = erD x y r D k.toNat ++ erP (D.2 k) (ght x y r (D.2 k)) := by
  rw [show (k + 1).toNat = k.toNat + 1 by omega]
  show erD x y r D k.toNat ++ erP (D.2 (k.toNat : Int)) (ght x y r (D.2 (k.toNat : Int))) = _
  rw [Int.toNat_of_nonneg h]
theorem erD_l {x y r : Int} {D : Drw} (R : DRr D) : ∀ k : Nat, (erD x y r D k).length ≤ 5 * k ∧ ∀ st ∈ erD x y r D k, SR st := by
  intro k
  induction k with
  | zero => exact ⟨Nat.le_refl _, fun st h => by cases h⟩
  | succ k ih =>
    have h1 := erP_l (s := D.2 k) (H := ght x y r (D.2 k)) (R.2 k).2.1.2
    unfold erD
    refine ⟨?_, fun st hst => ?_⟩
    · rw [List.length_append]
      omega
    · rcases List.mem_append.mp hst with q | q
      · exact ih.2 st q
      · exact erP_r (R.2 k) st q
/-- the desk holds a list of strokes, as far as there is room -/
def dsk (h : AHi) (l : List Stk) : Prop := h 49 1 = J (if l.length ≤ 8 then (l.length : Int) else 8) ∧ ∀ (i : Nat) (st : Stk), i < 8 → l[i]? = some st → SC h (49 + 5 + 3 * i) st
def Sdk (a k : Nat) : Prop := 49 ≤ a ∧ a ≤ 77
theorem SBd {i : Nat} (h : i < 8) : SB (49 + 5 + 3 * i) := ⟨49, i, DB_49, h, rfl⟩
theorem gC_a {st st' : Stk} {i : Nat} (h : (l ++ [st])[i]? = some st') (e : i < l.length) : l[i]? = some st' := by rw [List.getElem?_append_left e] at h; exact h
theorem gC_b {st st' : Stk} {i : Nat} (h : (l ++ [st])[i]? = some st') (e : ¬ i < l.length) : i = l.length ∧ st' = st := by
  rw [List.getElem?_append_right (by omega)] at h
  cases hi : i - l.length with
  | zero =>
    rw [hi] at h
    have : some st = some st' := h
    injection this with this
    exact ⟨by omega, this.symm⟩
  | succ j =>
    rw [hi] at h
    cases h
theorem addD (F : FH hr) (hn : 775 ≤ n) {a : Nat} (A : SB a) (ha : 159 ≤ a) (C : SC h a s) (hp : s.2.1 ≤ 10) {u v : Int} (hu : 0 ≤ u) (huv : u ≤ v + 1) (hv : v < s.2.1) (dk : dsk h l)
    (k : ∀ h', dsk h' (l ++ [prt s u v]) → Ef Sdk h h' → Q (some (.int (Bz (decide (l.length < 8)))), h', hr, n)) : Sp E 39 [.ref 49, .ref a, .int (J u), .int (J v)] h hr n Q := by
  have d1 := dk.1
  by_cases g : l.length < 8
  · rw [if_pos (by omega)] at d1
    rw [decide_eq_true g] at k
    refine w39 F hn DB_49 (PS49 F) A (m := l.length) (by omega) (by omega) d1 C hp hu huv hv (fun h1 C1 c1 e1 => k h1 ⟨?_, fun i st i8 hst => ?_⟩ (e1.mono fun x k q => ?_))
    · rw [c1, List.length_append, if_pos (by simp only [List.length_cons, List.length_nil]; omega)]
      rfl
    · rw [Int.toNat_natCast] at C1 e1
      by_cases e : i < l.length
      · exact (dk.2 i st i8 (gC_a hst e)).ef e1 (fun x k q1 q2 q => by unfold Sa at q; omega)
      · obtain ⟨rfl, rfl⟩ := gC_b hst e
        exact C1
    · rw [Int.toNat_natCast] at q
      unfold Sa at q
      unfold Sdk
      omega
  · rw [decide_eq_false g] at k
    have d2 : h 49 1 = J 8 := by
      by_cases e : l.length = 8
      · rw [d1, e]
        rfl
      · rw [d1, if_neg (by omega)]
    simp +decide (maxSteps := 4000000) (disch := omega) only [k39_0, k39_1, k39_r, k39_s, F_al0, T_getI, T_I, T_iclt, T_ret, T_getR, X_aald, F_al1, F_il2, F_il3, T_dupI, T_dupR, T_add, T_putI, T_putZ, c115, d2, kd_49, TK, lt_run hn, le43, Int.le_refl, Int.lt_irrefl, Option.some.injEq, exists_eq_left', true_and, and_true, if_true, if_false, decide_eq_false_iff_not, decide_eq_true_eq, Nat.reduceAdd, Nat.reduceLeDiff, Nat.reduceLT, Int.reduceAdd, Int.reduceSub, Int.reduceMul, Int.reduceNeg, not_true_eq_false, not_false_eq_true]
    refine k h ⟨?_, fun i st i8 hst => dk.2 i st i8 (gC_a hst (by omega))⟩ Ef.refl
    rw [d2, List.length_append, if_neg (by simp only [List.length_cons, List.length_nil]; omega)]
theorem dec_app {u v : Stk} : (decide (l.length ≤ 8) && decide (l.length < 8)) = decide ((l ++ [u]).length ≤ 8) := by
  rw [← Bool.decide_and]
  congr 1
  rw [List.length_append]
  simp only [List.length_cons, List.length_nil]
  exact propext (by omega)
end ER
