/-! new objects: the run with lists is a run -/
theorem c_rows_e {i : LgI} {r : LgR} {n : Nat} (h : fsh i r n = true) : ∀ c : Nat, a_rows (LR r) n c = LR (c_rows r n c) := by
  have base : ∀ x, n ≤ x → LR r x = fun _ => none := fun x hx => LR_f h hx
  have key : ∀ c x k, LR (c_rows r n c) x k = if x = n ∧ k < c then some (n + 1 + k) else LR r x k := by
    intro c
    induction c with
    | zero =>
      intro x k
      rw [if_neg (by omega)]
      rfl
    | succ c ih =>
      intro x k
      show LR ((n, c, n + 1 + c) :: c_rows r n c) x k = _
      rw [← LR_c]
      by_cases e : x = n
      · subst e
        by_cases e2 : k = c
        · subst e2
          rw [hR_s, if_pos ⟨rfl, Nat.lt_succ_self _⟩]
        · rw [hR_k e2, ih]
          by_cases e3 : k < c
          · rw [if_pos ⟨rfl, e3⟩, if_pos ⟨rfl, by omega⟩]
          · rw [if_neg (fun q => e3 q.2), if_neg (by omega)]
      · rw [hR_o e, ih, if_neg (fun q => e q.1), if_neg (fun q => e q.1)]
  intro c
  funext x k
  rw [key]
  unfold a_rows
  by_cases e : x = n
  · simp only [if_pos e]
    by_cases e2 : k < c
    · rw [if_pos e2, if_pos (show x = n ∧ k < c from ⟨e, e2⟩)]
    · rw [if_neg e2, if_neg (show ¬ (x = n ∧ k < c) from fun q => e2 q.2), base x (by omega)]
  · rw [if_neg (show ¬ (x = n ∧ k < c) from fun q => e q.1)]
    simp only [if_neg e]
    by_cases e2 : n < x ∧ x ≤ n + c
    · simp only [if_pos e2]
      rw [base x (by omega)]
    · simp only [if_neg e2]
theorem c_zero_e {i : LgI} {r : LgR} {n : Nat} (h : fsh i r n = true) (c : Nat) : a_zero (LI i) n c = LI i := by
  funext x
  unfold a_zero
  by_cases e : n ≤ x ∧ x ≤ n + c
  · rw [if_pos e, LI_f h e.1]
  · rw [if_neg e]
section CK
variable {E : AEn}
/-- operations that do not look at a heap -/
theorem c_pu_e (o : AOp) (h : c_pu o.1 = true) (ls st : List Value) (hi : AHi) (hr : AHr) (n : Nat) : a_sem E o ls st hi hr n = (match a_sem (0, fun _ => 0) o ls st (fun _ _ => 0) (fun _ _ => none) n with | some S => some (S.1, S.2.1, hi, hr, n) | none => none) := by
  obtain ⟨c, x⟩ := o
  have hc : c = 1 ∨ c = 3 ∨ c = 5 ∨ c = 6 ∨ c = 9 ∨ c = 10 ∨ c = 13 ∨ c = 20 ∨ c = 32 := by
    unfold c_pu at h
    simp only [Bool.or_eq_true, Nat.beq_eq] at h
    omega
  rcases hc with rfl | rfl | rfl | rfl | rfl | rfl | rfl | rfl | rfl
  · rfl
  · show (match ls[x.1]? with | some (Value.int y) => some (ls, Value.int y :: st, hi, hr, n) | _ => none) = (match (match ls[x.1]? with | some (Value.int y) => some (ls, Value.int y :: st, (fun _ _ => 0 : AHi), (fun _ _ => none : AHr), n) | _ => none) with | some S => some (S.1, S.2.1, hi, hr, n) | none => none)
    cases ls[x.1]? with
    | none => rfl
    | some v => cases v <;> rfl
  · show (match ls[x.1]? with | some (Value.ref y) => some (ls, Value.ref y :: st, hi, hr, n) | some Value.null => some (ls, Value.null :: st, hi, hr, n) | _ => none) = (match (match ls[x.1]? with | some (Value.ref y) => some (ls, Value.ref y :: st, (fun _ _ => 0 : AHi), (fun _ _ => none : AHr), n) | some Value.null => some (ls, Value.null :: st, (fun _ _ => 0 : AHi), (fun _ _ => none : AHr), n) | _ => none) with | some S => some (S.1, S.2.1, hi, hr, n) | none => none)
    cases ls[x.1]? with
    | none => rfl
    | some v => cases v <;> rfl
  · cases st with
    | nil => rfl
    | cons v st =>
      cases v with
      | int y =>
        show (if x.1 < ls.length then some (a_st1 ls x.1 (Value.int y), st, hi, hr, n) else none) = (match (if x.1 < ls.length then some (a_st1 ls x.1 (Value.int y), st, (fun _ _ => 0 : AHi), (fun _ _ => none : AHr), n) else none) with | some S => some (S.1, S.2.1, hi, hr, n) | none => none)
        split <;> rfl
      | _ => rfl
  · show (match ls[x.1]? with | some (Value.int y) => some (a_st1 ls x.1 (Value.int (y + Int32.ofInt x.2.2.1)), st, hi, hr, n) | _ => none) = (match (match ls[x.1]? with | some (Value.int y) => some (a_st1 ls x.1 (Value.int (y + Int32.ofInt x.2.2.1)), st, (fun _ _ => 0 : AHi), (fun _ _ => none : AHr), n) | _ => none) with | some S => some (S.1, S.2.1, hi, hr, n) | none => none)
    cases ls[x.1]? with
    | none => rfl
    | some v => cases v <;> rfl
  · cases st with
    | nil => rfl
    | cons v st =>
      cases v with
      | int y =>
        cases st with
        | nil => rfl
        | cons w st =>
          cases w with
          | int z =>
            show (match a_bin x.1 z y with | some u => some (ls, Value.int u :: st, hi, hr, n) | none => none) = (match (match a_bin x.1 z y with | some u => some (ls, Value.int u :: st, (fun _ _ => 0 : AHi), (fun _ _ => none : AHr), n) | none => none) with | some S => some (S.1, S.2.1, hi, hr, n) | none => none)
            cases a_bin x.1 z y <;> rfl
          | _ => rfl
      | _ => rfl
  · cases st with
    | nil => rfl
    | cons v st =>
      show (if v.category = 1 then some (ls, v :: v :: st, hi, hr, n) else none) = (match (if v.category = 1 then some (ls, v :: v :: st, (fun _ _ => 0 : AHi), (fun _ _ => none : AHr), n) else none) with | some S => some (S.1, S.2.1, hi, hr, n) | none => none)
      split <;> rfl
  · rfl
  · cases st with
    | nil => rfl
    | cons v st =>
      cases v with
      | ref y =>
        show (if 43 ≤ y ∧ st.length ≤ 4 then some (ls, st, hi, hr, n) else none) = (match (if 43 ≤ y ∧ st.length ≤ 4 then some (ls, st, (fun _ _ => 0 : AHi), (fun _ _ => none : AHr), n) else none) with | some S => some (S.1, S.2.1, hi, hr, n) | none => none)
        split <;> rfl
      | _ => rfl
theorem lnS {a : Nat} (h : 43 ≤ a) : a_ln E a = a_lnS a := ln_S (by omega)
theorem rRL {r : LgR} {a k : Nat} (h : 43 ≤ a) : rR (LR r) a k = LR r a k := rR_run h
theorem c_sem_e {o : AOp} {ls st : List Value} {i : LgI} {r : LgR} {n : Nat} {S : CSt} (h : c_sem o ls st i r n = some S) : a_sem E o ls st (LI i) (LR r) n = some (S.1, S.2.1, LI S.2.2.1, LR S.2.2.2.1, S.2.2.2.2) := by
  unfold c_sem at h
  by_cases hp : c_pu o.1 = true
  · rw [if_pos hp] at h
    rw [c_pu_e o hp]
    revert h
    cases a_sem (0, fun _ => 0) o ls st (fun _ _ => 0) (fun _ _ => none) n with
    | none => intro h; cases h
    | some T => intro h; cases h; rfl
  rw [if_neg hp] at h
  clear hp
  obtain ⟨c, x⟩ := o
  dsimp only at h
  by_cases c17 : c = 17
  · subst c17
    rw [if_pos rfl] at h
    split at h
    · split at h
      · rename_i a st w
        cases h
        show (if a_kd a = x.1 ∧ a < n then _ else _) = _
        rw [if_pos ⟨w.1, w.2.1⟩, rRL w.2.2]
      · cases h
    · cases h
  rw [if_neg c17] at h
  by_cases c18 : c = 18
  · subst c18
    rw [if_pos rfl] at h
    split at h
    · split at h
      · rename_i v a st w
        cases h
        show (if (a_kd a = x.1 ∧ a < n ∧ 43 ≤ a) ∧ (x.2.2.1 = 0 ∨ v = 0 ∨ v = 1) then _ else _) = _
        rw [if_pos ⟨w.1, Or.inl w.2⟩, LI_c]
      · cases h
    · cases h
  rw [if_neg c18] at h
  by_cases c19 : c = 19
  · subst c19
    rw [if_pos rfl] at h
    split at h
    · split at h
      · rename_i v a st w
        cases h
        show (if a_kd a = x.1 ∧ a < n ∧ 43 ≤ a then _ else _) = _
        rw [if_pos w, LR_c]
      · cases h
    · cases h
  rw [if_neg c19] at h
  by_cases c23 : c = 23
  · subst c23
    rw [if_pos rfl] at h
    split at h
    · split at h
      · rename_i j a st w
        cases h
        show (if (30 ≤ a_kd a ∧ a_kd a ≤ 50 ∧ a < n) ∧ ¬ (j < 0 ∨ a_ln E a ≤ j.toNatClampNeg) then _ else _) = _
        rw [lnS w.1.2, if_pos ⟨w.1.1, w.2⟩, rRL w.1.2]
      · cases h
    · cases h
  rw [if_neg c23] at h
  by_cases c24 : c = 24
  · subst c24
    rw [if_pos rfl] at h
    split at h
    · split at h
      · rename_i v j a st w
        cases h
        show (if (a_kd a = 20 ∧ a < n ∧ 43 ≤ a) ∧ ¬ (j < 0 ∨ a_ln E a ≤ j.toNatClampNeg) then _ else _) = _
        rw [lnS w.1.2.2, if_pos w, LI_c]
      · cases h
    · cases h
  rw [if_neg c24] at h
  by_cases c26 : c = 26
  · subst c26
    rw [if_pos rfl] at h
    split at h
    · split at h
      · rename_i v j a st w
        cases h
        show (if ((30 ≤ a_kd a ∧ a_kd a ≤ 42) ∧ a < n ∧ 43 ≤ a) ∧ (a_kd v + 30 = a_kd a ∧ v < n) ∧ ¬ (j < 0 ∨ a_ln E a ≤ j.toNatClampNeg) then _ else _) = _
        rw [lnS w.1.2.2, if_pos w, LR_c]
      · cases h
    · cases h
  rw [if_neg c26] at h
  by_cases c27 : c = 27
  · subst c27
    rw [if_pos rfl] at h
    split at h
    · split at h
      · rename_i a st w
        cases h
        show (if (20 ≤ a_kd a ∧ a_kd a ≤ 50) ∧ a < n then some (ls, .int (nI (a_ln E a)) :: st, LI i, LR r, n) else none) = _
        rw [lnS w.2, if_pos w.1]
      · cases h
    · cases h
  rw [if_neg c27] at h
  by_cases c28 : c = 28
  · subst c28
    rw [if_pos rfl] at h
    split at h
    · rename_i w
      cases h
      show (if a_kd n = x.1 then some (ls, .ref n :: st, va_up (LI i) n (fun _ => 0), va_up (LR r) n (fun _ => none), n + 1) else none) = _
      rw [if_pos w.1.1, va_id (LI_f w.2 (Nat.le_refl _)), va_id (LR_f w.2 (Nat.le_refl _))]
    · cases h
  rw [if_neg c28] at h
  by_cases c29 : c = 29
  · subst c29
    rw [if_pos rfl] at h
    split at h
    · split at h
      · rename_i j st w
        cases h
        show (if a_kd n = x.1 ∧ ¬ j < 0 ∧ a_ln E n = j.toNatClampNeg ∧ j.toNatClampNeg ≤ 60000 then some (ls, .ref n :: st, va_up (LI i) n (fun _ => 0), LR r, n + 1) else none) = _
        rw [lnS w.2.1, if_pos w.1, va_id (LI_f w.2.2 (Nat.le_refl _))]
      · cases h
    · cases h
  rw [if_neg c29] at h
  by_cases c30 : c = 30
  · subst c30
    rw [if_pos rfl] at h
    split at h
    · split at h
      · rename_i j st w
        cases h
        show (if a_kd n = x.1 ∧ ¬ j < 0 ∧ a_ln E n = j.toNatClampNeg ∧ j.toNatClampNeg ≤ 60000 then some (ls, .ref n :: st, LI i, va_up (LR r) n (fun _ => none), n + 1) else none) = _
        rw [lnS w.2.1, if_pos w.1, va_id (LR_f w.2.2 (Nat.le_refl _))]
      · cases h
    · cases h
  rw [if_neg c30] at h
  by_cases c31 : c = 31
  · subst c31
    rw [if_pos rfl] at h
    split at h
    · split at h
      · rename_i k j st w
        cases h
        show (if a_kd n = 50 ∧ ¬ j < 0 ∧ ¬ k < 0 ∧ a_ln E n = j.toNatClampNeg ∧ j.toNatClampNeg ≤ 60000 ∧ k.toNatClampNeg ≤ 60000 ∧ ∀ i, i < j.toNatClampNeg → a_kd (n + 1 + i) = 20 ∧ a_ln E (n + 1 + i) = k.toNatClampNeg then some (ls, .ref n :: st, a_zero (LI i) n j.toNatClampNeg, a_rows (LR r) n j.toNatClampNeg, n + 1 + j.toNatClampNeg) else none) = _
        rw [if_pos ⟨w.1.1, w.1.2.1, w.1.2.2.1, (lnS w.2.1).trans w.1.2.2.2.1, w.1.2.2.2.2.1, w.1.2.2.2.2.2.1, fun q hq => ⟨(w.1.2.2.2.2.2.2 q hq).1, (lnS (by omega)).trans (w.1.2.2.2.2.2.2 q hq).2⟩⟩, c_zero_e w.2.2, c_rows_e w.2.2]
      · cases h
    · cases h
  rw [if_neg c31] at h
  cases h
theorem c_dom {o : AOp} {ls st : List Value} {i : LgI} {r : LgR} {n : Nat} {S : CSt} (h : c_sem o ls st i r n = some S) : c_pu o.1 = true ∨ o.1 = 17 ∨ o.1 = 18 ∨ o.1 = 19 ∨ o.1 = 23 ∨ o.1 = 24 ∨ o.1 = 26 ∨ o.1 = 27 ∨ o.1 = 28 ∨ o.1 = 29 ∨ o.1 = 30 ∨ o.1 = 31 := by
  refine Classical.byContradiction (fun z => ?_)
  simp only [not_or] at z
  obtain ⟨z0, z1, z2, z3, z4, z5, z6, z7, z8, z9, z10, z11⟩ := z
  unfold c_sem at h
  rw [if_neg z0, if_neg z1, if_neg z2, if_neg z3, if_neg z4, if_neg z5, if_neg z6, if_neg z7, if_neg z8, if_neg z9, if_neg z10, if_neg z11] at h
  cases h
theorem c_ok : ∀ (f m : Nat) (is : List AOp) (ls st : List Value) (i : LgI) (r : LgR) (n : Nat) (q : CRs), c_ex f m is ls st i r n = some q → a_ex E f m is ls st (LI i) (LR r) n = some (q.1, LI q.2.1, LR q.2.2.1, q.2.2.2) := by
  intro f
  induction f with
  | zero => intro m is ls st i r n q h; cases h
  | succ f ih =>
    intro m is ls st i r n q h
    cases is with
    | nil => cases h
    | cons o is =>
      change (if o.1 = 100 then c_ex f m (a_bl m o.2.1) ls st i r n else if o.1 = 105 then c_ex f m (a_bl m o.2.1) ls st i r n else if o.1 = 101 then (match a_cnd o.2.2.1 st with | some q => c_ex f m (bif q.1 then a_bl m o.2.1 else is) ls q.2 i r n | none => none) else if o.1 = 103 then (if a_ar o.2.1 ≤ st.length ∧ (st.drop (a_ar o.2.1)).length ≤ 4 ∧ a_cok o.2.1 n (st.take (a_ar o.2.1)).reverse = true then (match c_ex f o.2.1 (a_bl o.2.1 0) (a_pad (a_ml o.2.1) (a_args (st.take (a_ar o.2.1)).reverse)) [] i r n with | some q => c_ex f m is ls (q.1.toList ++ st.drop (a_ar o.2.1)) q.2.1 q.2.2.1 q.2.2.2 | none => none) else none) else if o.1 = 104 then (match a_rv (a_rt m) o.2.1 st with | some v => some (v, i, r, n) | none => none) else (match c_sem o ls st i r n with | some S => c_ex f m is S.1 S.2.1 S.2.2.1 S.2.2.2.1 S.2.2.2.2 | none => none)) = some q at h
      obtain ⟨c, x⟩ := o
      dsimp only at h
      by_cases e100 : c = 100
      · subst e100
        rw [if_pos rfl] at h
        exact ih _ _ _ _ _ _ _ _ h
      rw [if_neg e100] at h
      by_cases e105 : c = 105
      · subst e105
        rw [if_pos rfl] at h
        exact ih _ _ _ _ _ _ _ _ h
      rw [if_neg e105] at h
      by_cases e101 : c = 101
      · subst e101
        rw [if_pos rfl] at h
        show (match a_cnd x.2.1 st with | some (b, st') => a_ex E f m (bif b then a_bl m x.1 else is) ls st' (LI i) (LR r) n | none => none) = _
        revert h
        cases a_cnd x.2.1 st with
        | none => intro h; cases h
        | some w => intro h; exact ih _ _ _ _ _ _ _ _ h
      rw [if_neg e101] at h
      by_cases e103 : c = 103
      · subst e103
        rw [if_pos rfl] at h
        show (if a_ar x.1 ≤ st.length ∧ (st.drop (a_ar x.1)).length ≤ 4 ∧ a_cok x.1 n (st.take (a_ar x.1)).reverse = true then (match a_ex E f x.1 (a_bl x.1 0) (a_pad (a_ml x.1) (a_args (st.take (a_ar x.1)).reverse)) [] (LI i) (LR r) n with | some r => a_ex E f m is ls (r.1.toList ++ st.drop (a_ar x.1)) r.2.1 r.2.2.1 r.2.2.2 | none => none) else none) = _
        split at h
        · rename_i w
          rw [if_pos w]
          cases hc : c_ex f x.1 (a_bl x.1 0) (a_pad (a_ml x.1) (a_args (st.take (a_ar x.1)).reverse)) [] i r n with
          | none =>
            rw [hc] at h
            cases h
          | some p =>
            rw [hc] at h
            rw [ih _ _ _ _ _ _ _ _ hc]
            exact ih _ _ _ _ _ _ _ _ h
        · cases h
      rw [if_neg e103] at h
      by_cases e104 : c = 104
      · subst e104
        rw [if_pos rfl] at h
        show (match a_rv (a_rt m) x.1 st with | some v => some (v, LI i, LR r, n) | none => none) = _
        revert h
        cases a_rv (a_rt m) x.1 st with
        | none => intro h; cases h
        | some w => intro h; cases h; rfl
      rw [if_neg e104] at h
      cases hs : c_sem (c, x) ls st i r n with
      | none =>
        rw [hs] at h
        cases h
      | some S =>
        rw [hs] at h
        have e := c_sem_e (E := E) hs
        have hc : c = 1 ∨ c = 3 ∨ c = 5 ∨ c = 6 ∨ c = 9 ∨ c = 10 ∨ c = 13 ∨ c = 20 ∨ c = 32 ∨ c = 17 ∨ c = 18 ∨ c = 19 ∨ c = 23 ∨ c = 24 ∨ c = 26 ∨ c = 27 ∨ c = 28 ∨ c = 29 ∨ c = 30 ∨ c = 31 := by
          rcases c_dom hs with w | w
          · unfold c_pu at w
            simp only [Bool.or_eq_true, Nat.beq_eq] at w
            omega
          · dsimp only at w
            omega
        have go : a_ex E (f + 1) m ((c, x) :: is) ls st (LI i) (LR r) n = (match a_sem E (c, x) ls st (LI i) (LR r) n with | some (ls', st', hi', hr', n') => a_ex E f m is ls' st' hi' hr' n' | none => none) := by
          rcases hc with rfl | rfl | rfl | rfl | rfl | rfl | rfl | rfl | rfl | rfl | rfl | rfl | rfl | rfl | rfl | rfl | rfl | rfl | rfl | rfl <;> rfl
        rw [go, e]
        exact ih _ _ _ _ _ _ _ _ h
end CK
