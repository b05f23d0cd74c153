/-! Runs of the abstract machine, for rewriting -/
def Tm (E : AEn) (m : Nat) (is : List AOp) (ls st : List Value) (hi : AHi) (hr : AHr) (n : Nat) (Q : ARs → Prop) : Prop := ∃ (f : Nat) (r : ARs), a_ex E f m is ls st hi hr n = some r ∧ Q r
theorem ex_more {E : AEn} : ∀ (f g m : Nat) (is : List AOp) (ls st : List Value) (hi : AHi) (hr : AHr) (n : Nat) (r : ARs), f ≤ g → a_ex E f m is ls st hi hr n = some r → a_ex E g m is ls st hi hr n = some r := by
  intro f
  induction f with
  | zero => intro g m is ls st hi hr n r _ h; cases h
  | succ f ih =>
    intro g m is ls st hi hr n r hg h
    obtain ⟨g, rfl⟩ : ∃ g', g = g' + 1 := ⟨g - 1, by omega⟩
    have hg : f ≤ g := by omega
    cases is with
    | nil => cases h
    | cons o is =>
      unfold a_ex at h ⊢
      split at h
      · exact ih _ _ _ _ _ _ _ _ _ hg h
      · exact ih _ _ _ _ _ _ _ _ _ hg h
      · split at h
        · rename_i hc
          try simp only [hc]
          exact ih _ _ _ _ _ _ _ _ _ hg h
        · cases h
      · split at h
        · exact ih _ _ _ _ _ _ _ _ _ hg h
        · cases h
      · split at h
        · rename_i hc
          try rw [if_pos hc]
          split at h
          · rename_i r1 h1
            rw [ih _ _ _ _ _ _ _ _ _ hg h1]
            exact ih _ _ _ _ _ _ _ _ _ hg h
          · cases h
        · cases h
      · exact h
      · split at h
        · rename_i hs
          try simp only [hs]
          exact ih _ _ _ _ _ _ _ _ _ hg h
        · cases h
section TL
variable {E : AEn} {m : Nat} {is : List AOp} {ls st : List Value} {hi : AHi} {hr : AHr} {n : Nat} {Q Q' : ARs → Prop}
theorem Tm.mono (h : Tm E m is ls st hi hr n Q) (hq : ∀ r, Q r → Q' r) : Tm E m is ls st hi hr n Q' := by
  obtain ⟨f, r, h1, h2⟩ := h
  exact ⟨f, r, h1, hq r h2⟩
/-- one step on: an operation whose run is another run -/
theorem T_step {o : AOp} {is' : List AOp} {ls' st' : List Value} {hi' : AHi} {hr' : AHr} {n' : Nat} (h : ∀ f, a_ex E (f + 1) m (o :: is) ls st hi hr n = a_ex E f m is' ls' st' hi' hr' n') : Tm E m (o :: is) ls st hi hr n Q ↔ Tm E m is' ls' st' hi' hr' n' Q := by
  constructor
  · rintro ⟨f, r, h1, h2⟩
    cases f with
    | zero => cases h1
    | succ f => exact ⟨f, r, (h f).symm.trans h1, h2⟩
  · rintro ⟨f, r, h1, h2⟩
    exact ⟨f + 1, r, (h f).trans h1, h2⟩
theorem T_no {o : AOp} (h : ∀ f, a_ex E (f + 1) m (o :: is) ls st hi hr n = none) : Tm E m (o :: is) ls st hi hr n Q ↔ False := by
  constructor
  · rintro ⟨f, r, h1, h2⟩
    cases f with
    | zero => cases h1
    | succ f => rw [h f] at h1; cases h1
  · exact False.elim
/-- behind one operation -/
def tS (E : AEn) (m : Nat) (is : List AOp) (Q : ARs → Prop) (o : Option ASt) : Prop := match o with
  | some S => Tm E m is S.1 S.2.1 S.2.2.1 S.2.2.2.1 S.2.2.2.2 Q
  | none => False
theorem T_sem {o : AOp} (h : ∀ f, a_ex E (f + 1) m (o :: is) ls st hi hr n = (match a_sem E o ls st hi hr n with | some (ls', st', hi', hr', n') => a_ex E f m is ls' st' hi' hr' n' | none => none)) : Tm E m (o :: is) ls st hi hr n Q ↔ tS E m is Q (a_sem E o ls st hi hr n) := by
  unfold tS
  cases hs : a_sem E o ls st hi hr n with
  | none => exact T_no fun f => by rw [h f, hs]
  | some S => exact T_step fun f => by rw [h f, hs]
theorem tS_if {c : Prop} [Decidable c] {S : ASt} : tS E m is Q (if c then some S else none) ↔ c ∧ tS E m is Q (some S) := by
  by_cases h : c
  · rw [if_pos h]; exact ⟨fun q => ⟨h, q⟩, fun q => q.2⟩
  · rw [if_neg h]; exact ⟨fun q => q.elim, fun q => h q.1⟩
theorem T_I (v : Int32) : Tm E m (o_I v :: is) ls st hi hr n Q ↔ Tm E m is ls (.int v :: st) hi hr n Q := by
  rw [T_sem (fun _ => rfl), sem_I]; exact Iff.rfl
theorem T_L (v : Int64) : Tm E m (o_L v :: is) ls st hi hr n Q ↔ Tm E m is ls (.long v :: st) hi hr n Q := by
  rw [T_sem (fun _ => rfl), sem_L]; exact Iff.rfl
/-- a local that is there -/
def lI (v : Option Value) (k : Int32 → Prop) : Prop := match v with | some (.int x) => k x | _ => False
def lL (v : Option Value) (k : Int64 → Prop) : Prop := match v with | some (.long x) => k x | _ => False
def lR (v : Option Value) (k : Value → Prop) : Prop := match v with | some (.ref x) => k (.ref x) | some .null => k .null | _ => False
theorem lI_i (x : Int32) (k : Int32 → Prop) : lI (some (.int x)) k ↔ k x := Iff.rfl
theorem lL_l (x : Int64) (k : Int64 → Prop) : lL (some (.long x)) k ↔ k x := Iff.rfl
theorem lR_r (x : Nat) (k : Value → Prop) : lR (some (.ref x)) k ↔ k (.ref x) := Iff.rfl
theorem lR_n (k : Value → Prop) : lR (some .null) k ↔ k .null := Iff.rfl
theorem T_il (i : Nat) : Tm E m (o_il i :: is) ls st hi hr n Q ↔ lI ls[i]? (fun x => Tm E m is ls (.int x :: st) hi hr n Q) := by
  rw [T_sem (fun _ => rfl)]
  change tS E m is Q (match ls[i]? with | some (.int x) => some (ls, Value.int x :: st, hi, hr, n) | _ => none) ↔ _
  unfold lI
  split <;> exact Iff.rfl
theorem T_ll (i : Nat) : Tm E m (o_ll i :: is) ls st hi hr n Q ↔ lL ls[i]? (fun x => Tm E m is ls (.long x :: st) hi hr n Q) := by
  rw [T_sem (fun _ => rfl)]
  change tS E m is Q (match ls[i]? with | some (.long x) => some (ls, Value.long x :: st, hi, hr, n) | _ => none) ↔ _
  unfold lL
  split <;> exact Iff.rfl
theorem T_al (i : Nat) : Tm E m (o_al i :: is) ls st hi hr n Q ↔ lR ls[i]? (fun x => Tm E m is ls (x :: st) hi hr n Q) := by
  rw [T_sem (fun _ => rfl)]
  change tS E m is Q (match ls[i]? with | some (.ref x) => some (ls, Value.ref x :: st, hi, hr, n) | some .null => some (ls, Value.null :: st, hi, hr, n) | _ => none) ↔ _
  unfold lR
  split <;> exact Iff.rfl
theorem T_is (i : Nat) (x : Int32) : Tm E m (o_is i :: is) ls (.int x :: st) hi hr n Q ↔ i < ls.length ∧ Tm E m is (a_st1 ls i (.int x)) st hi hr n Q := by
  rw [T_sem (fun _ => rfl)]; exact tS_if
theorem T_lst (i : Nat) (x : Int64) : Tm E m (o_lst i :: is) ls (.long x :: st) hi hr n Q ↔ i + 1 < ls.length ∧ Tm E m is (a_st2 ls i (.long x)) st hi hr n Q := by
  rw [T_sem (fun _ => rfl)]; exact tS_if
theorem T_as (i x : Nat) : Tm E m (o_as i :: is) ls (.ref x :: st) hi hr n Q ↔ i < ls.length ∧ Tm E m is (a_st1 ls i (.ref x)) st hi hr n Q := by
  rw [T_sem (fun _ => rfl)]; exact tS_if
theorem T_iinc (i : Nat) (v : Int32) : Tm E m (o_iinc i v :: is) ls st hi hr n Q ↔ lI ls[i]? (fun x => Tm E m is (a_st1 ls i (.int (x + v))) st hi hr n Q) := by
  rw [T_sem (fun _ => rfl)]
  change tS E m is Q (match ls[i]? with | some (.int x) => some (a_st1 ls i (.int (x + Int32.ofInt v.toInt)), st, hi, hr, n) | _ => none) ↔ _
  rw [Int32.ofInt_toInt]
  unfold lI
  split <;> exact Iff.rfl
theorem T_add (x y : Int32) : Tm E m (o_bin 0 :: is) ls (.int y :: .int x :: st) hi hr n Q ↔ Tm E m is ls (.int (x + y) :: st) hi hr n Q := by
  rw [T_sem (fun _ => rfl)]; exact Iff.rfl
theorem T_sub (x y : Int32) : Tm E m (o_bin 1 :: is) ls (.int y :: .int x :: st) hi hr n Q ↔ Tm E m is ls (.int (x - y) :: st) hi hr n Q := by
  rw [T_sem (fun _ => rfl)]; exact Iff.rfl
theorem T_mul (x y : Int32) : Tm E m (o_bin 2 :: is) ls (.int y :: .int x :: st) hi hr n Q ↔ Tm E m is ls (.int (x * y) :: st) hi hr n Q := by
  rw [T_sem (fun _ => rfl)]; exact Iff.rfl
theorem T_and (x y : Int32) : Tm E m (o_bin 3 :: is) ls (.int y :: .int x :: st) hi hr n Q ↔ Tm E m is ls (.int (x &&& y) :: st) hi hr n Q := by
  rw [T_sem (fun _ => rfl)]; exact Iff.rfl
theorem T_or (x y : Int32) : Tm E m (o_bin 4 :: is) ls (.int y :: .int x :: st) hi hr n Q ↔ Tm E m is ls (.int (x ||| y) :: st) hi hr n Q := by
  rw [T_sem (fun _ => rfl)]; exact Iff.rfl
theorem T_xor (x y : Int32) : Tm E m (o_bin 5 :: is) ls (.int y :: .int x :: st) hi hr n Q ↔ Tm E m is ls (.int (x ^^^ y) :: st) hi hr n Q := by
  rw [T_sem (fun _ => rfl)]; exact Iff.rfl
theorem T_shl (x y : Int32) : Tm E m (o_bin 6 :: is) ls (.int y :: .int x :: st) hi hr n Q ↔ Tm E m is ls (.int (x <<< (y &&& 31)) :: st) hi hr n Q := by
  rw [T_sem (fun _ => rfl)]; exact Iff.rfl
theorem T_shr (x y : Int32) : Tm E m (o_bin 7 :: is) ls (.int y :: .int x :: st) hi hr n Q ↔ Tm E m is ls (.int (x >>> (y &&& 31)) :: st) hi hr n Q := by
  rw [T_sem (fun _ => rfl)]; exact Iff.rfl
theorem T_ushr (x y : Int32) : Tm E m (o_bin 8 :: is) ls (.int y :: .int x :: st) hi hr n Q ↔ Tm E m is ls (.int (a_ushr x y) :: st) hi hr n Q := by
  rw [T_sem (fun _ => rfl)]; exact Iff.rfl
theorem T_div (x y : Int32) : Tm E m (o_bin 9 :: is) ls (.int y :: .int x :: st) hi hr n Q ↔ y ≠ 0 ∧ Tm E m is ls (.int (x / y) :: st) hi hr n Q := by
  rw [T_sem (fun _ => rfl)]
  change tS E m is Q (match (if y = 0 then none else some (x / y)) with | some z => some (ls, .int z :: st, hi, hr, n) | none => none) ↔ _
  by_cases h : y = 0
  · rw [if_pos h]; exact ⟨fun q => q.elim, fun q => q.1 h⟩
  · rw [if_neg h]; exact ⟨fun q => ⟨h, q⟩, fun q => q.2⟩
theorem T_rem (x y : Int32) : Tm E m (o_bin 10 :: is) ls (.int y :: .int x :: st) hi hr n Q ↔ y ≠ 0 ∧ Tm E m is ls (.int (a_rem x y) :: st) hi hr n Q := by
  rw [T_sem (fun _ => rfl)]
  change tS E m is Q (match (if y = 0 then none else some (a_rem x y)) with | some z => some (ls, .int z :: st, hi, hr, n) | none => none) ↔ _
  by_cases h : y = 0
  · rw [if_pos h]; exact ⟨fun q => q.elim, fun q => q.1 h⟩
  · rw [if_neg h]; exact ⟨fun q => ⟨h, q⟩, fun q => q.2⟩
theorem T_addL (x y : Int64) : Tm E m (o_binL 0 :: is) ls (.long y :: .long x :: st) hi hr n Q ↔ Tm E m is ls (.long (x + y) :: st) hi hr n Q := by
  rw [T_sem (fun _ => rfl)]; exact Iff.rfl
theorem T_subL (x y : Int64) : Tm E m (o_binL 1 :: is) ls (.long y :: .long x :: st) hi hr n Q ↔ Tm E m is ls (.long (x - y) :: st) hi hr n Q := by
  rw [T_sem (fun _ => rfl)]; exact Iff.rfl
theorem T_mulL (x y : Int64) : Tm E m (o_binL 2 :: is) ls (.long y :: .long x :: st) hi hr n Q ↔ Tm E m is ls (.long (x * y) :: st) hi hr n Q := by
  rw [T_sem (fun _ => rfl)]; exact Iff.rfl
theorem T_lcmp (x y : Int64) : Tm E m (o_binL 5 :: is) ls (.long y :: .long x :: st) hi hr n Q ↔ Tm E m is ls (.int (a_lcmp x y) :: st) hi hr n Q := by
  rw [T_sem (fun _ => rfl)]; exact Iff.rfl
theorem T_xorL (x y : Int64) : Tm E m (o_binL 6 :: is) ls (.long y :: .long x :: st) hi hr n Q ↔ Tm E m is ls (.long (x ^^^ y) :: st) hi hr n Q := by
  rw [T_sem (fun _ => rfl)]; exact Iff.rfl
theorem T_divL (x y : Int64) : Tm E m (o_binL 3 :: is) ls (.long y :: .long x :: st) hi hr n Q ↔ y ≠ 0 ∧ Tm E m is ls (.long (x / y) :: st) hi hr n Q := by
  rw [T_sem (fun _ => rfl)]
  change tS E m is Q (match (if y = 0 then none else some (Value.long (x / y))) with | some z => some (ls, z :: st, hi, hr, n) | none => none) ↔ _
  by_cases h : y = 0
  · rw [if_pos h]; exact ⟨fun q => q.elim, fun q => q.1 h⟩
  · rw [if_neg h]; exact ⟨fun q => ⟨h, q⟩, fun q => q.2⟩
theorem T_remL (x y : Int64) : Tm E m (o_binL 4 :: is) ls (.long y :: .long x :: st) hi hr n Q ↔ y ≠ 0 ∧ Tm E m is ls (.long (a_remL x y) :: st) hi hr n Q := by
  rw [T_sem (fun _ => rfl)]
  change tS E m is Q (match (if y = 0 then none else some (Value.long (a_remL x y))) with | some z => some (ls, z :: st, hi, hr, n) | none => none) ↔ _
  by_cases h : y = 0
  · rw [if_pos h]; exact ⟨fun q => q.elim, fun q => q.1 h⟩
  · rw [if_neg h]; exact ⟨fun q => ⟨h, q⟩, fun q => q.2⟩
theorem T_neg (x : Int32) : Tm E m (o_un 0 :: is) ls (.int x :: st) hi hr n Q ↔ Tm E m is ls (.int (-x) :: st) hi hr n Q := by
  rw [T_sem (fun _ => rfl)]; exact Iff.rfl
theorem T_i2l (x : Int32) : Tm E m (o_un 1 :: is) ls (.int x :: st) hi hr n Q ↔ Tm E m is ls (.long x.toInt64 :: st) hi hr n Q := by
  rw [T_sem (fun _ => rfl)]; exact Iff.rfl
theorem T_i2b (x : Int32) : Tm E m (o_un 3 :: is) ls (.int x :: st) hi hr n Q ↔ Tm E m is ls (.int (a_byte x) :: st) hi hr n Q := by
  rw [T_sem (fun _ => rfl)]; exact Iff.rfl
theorem T_i2c (x : Int32) : Tm E m (o_un 4 :: is) ls (.int x :: st) hi hr n Q ↔ Tm E m is ls (.int (a_char x) :: st) hi hr n Q := by
  rw [T_sem (fun _ => rfl)]; exact Iff.rfl
theorem T_l2i (x : Int64) : Tm E m (o_un 2 :: is) ls (.long x :: st) hi hr n Q ↔ Tm E m is ls (.int x.toInt32 :: st) hi hr n Q := by
  rw [T_sem (fun _ => rfl)]; exact Iff.rfl
theorem T_dupI (x : Int32) : Tm E m (o_dup :: is) ls (.int x :: st) hi hr n Q ↔ Tm E m is ls (.int x :: .int x :: st) hi hr n Q := by
  rw [T_sem (fun _ => rfl)]; exact Iff.rfl
theorem T_dupR (x : Nat) : Tm E m (o_dup :: is) ls (.ref x :: st) hi hr n Q ↔ Tm E m is ls (.ref x :: .ref x :: st) hi hr n Q := by
  rw [T_sem (fun _ => rfl)]; exact Iff.rfl
theorem T_popI (x : Int32) : Tm E m (o_pop :: is) ls (.int x :: st) hi hr n Q ↔ Tm E m is ls st hi hr n Q := by
  rw [T_sem (fun _ => rfl)]; exact Iff.rfl
theorem T_dup2 (x : Int32) (a : Nat) : Tm E m (o_dup2 :: is) ls (.int x :: .ref a :: st) hi hr n Q ↔ Tm E m is ls (.int x :: .ref a :: .int x :: .ref a :: st) hi hr n Q := by
  rw [T_sem (fun _ => rfl)]; exact Iff.rfl
theorem T_getI (C k a : Nat) : Tm E m (o_getI C k :: is) ls (.ref a :: st) hi hr n Q ↔ (a_kd a = C ∧ a < n) ∧ Tm E m is ls (.int (rI E hi a k) :: st) hi hr n Q := by
  rw [T_sem (fun _ => rfl)]; exact tS_if
theorem T_getR (C k a : Nat) : Tm E m (o_getR C k :: is) ls (.ref a :: st) hi hr n Q ↔ (a_kd a = C ∧ a < n) ∧ Tm E m is ls (a_ref (rR hr a k) :: st) hi hr n Q := by
  rw [T_sem (fun _ => rfl)]; exact tS_if
theorem T_putI (C k a : Nat) (v : Int32) : Tm E m (o_putI C k :: is) ls (.int v :: .ref a :: st) hi hr n Q ↔ (a_kd a = C ∧ a < n ∧ 43 ≤ a) ∧ Tm E m is ls st (hI hi a k v) hr n Q := by
  rw [T_sem (fun _ => rfl)]
  refine (tS_if (c := (a_kd a = C ∧ a < n ∧ 43 ≤ a) ∧ ((0 : Int) = 0 ∨ v = 0 ∨ v = 1))).trans ?_
  exact ⟨fun h => ⟨h.1.1, h.2⟩, fun h => ⟨⟨h.1, Or.inl rfl⟩, h.2⟩⟩
theorem T_putZ (C k a : Nat) (v : Int32) : Tm E m (o_putZ C k :: is) ls (.int v :: .ref a :: st) hi hr n Q ↔ ((a_kd a = C ∧ a < n ∧ 43 ≤ a) ∧ (v = 0 ∨ v = 1)) ∧ Tm E m is ls st (hI hi a k v) hr n Q := by
  rw [T_sem (fun _ => rfl)]
  refine (tS_if (c := (a_kd a = C ∧ a < n ∧ 43 ≤ a) ∧ ((1 : Int) = 0 ∨ v = 0 ∨ v = 1))).trans ?_
  exact ⟨fun h => ⟨⟨h.1.1, h.1.2.resolve_left (by decide)⟩, h.2⟩, fun h => ⟨⟨h.1.1, Or.inr h.1.2⟩, h.2⟩⟩
theorem T_putR (C k a v : Nat) : Tm E m (o_putR C k :: is) ls (.ref v :: .ref a :: st) hi hr n Q ↔ (a_kd a = C ∧ a < n ∧ 43 ≤ a) ∧ Tm E m is ls st hi (hR hr a k (some v)) n Q := by
  rw [T_sem (fun _ => rfl)]; exact tS_if
theorem T_cR (a : Nat) : Tm E m (o_cR a :: is) ls st hi hr n Q ↔ Tm E m is ls (.ref a :: st) hi hr n Q := by
  rw [T_sem (fun _ => rfl)]; exact Iff.rfl
theorem T_iald (a : Nat) (j : Int32) : Tm E m (o_iald :: is) ls (.int j :: .ref a :: st) hi hr n Q ↔ ((a_kd a = 20 ∧ a < n) ∧ vp_in j (a_ln E a)) ∧ Tm E m is ls (.int (rI E hi a j.toNatClampNeg) :: st) hi hr n Q := by
  rw [T_sem (fun _ => rfl)]; exact tS_if
theorem T_bald (a : Nat) (j : Int32) : Tm E m (o_bald :: is) ls (.int j :: .ref a :: st) hi hr n Q ↔ (((a_kd a = 21 ∨ a_kd a = 22) ∧ a < n) ∧ vp_in j (a_ln E a)) ∧ Tm E m is ls (.int (rI E hi a j.toNatClampNeg) :: st) hi hr n Q := by
  rw [T_sem (fun _ => rfl)]; exact tS_if
theorem T_aald (a : Nat) (j : Int32) : Tm E m (o_aald :: is) ls (.int j :: .ref a :: st) hi hr n Q ↔ ((30 ≤ a_kd a ∧ a_kd a ≤ 50 ∧ a < n) ∧ vp_in j (a_ln E a)) ∧ Tm E m is ls (a_ref (rR hr a j.toNatClampNeg) :: st) hi hr n Q := by
  rw [T_sem (fun _ => rfl)]; exact tS_if
theorem T_iast (a : Nat) (j v : Int32) : Tm E m (o_iast :: is) ls (.int v :: .int j :: .ref a :: st) hi hr n Q ↔ ((a_kd a = 20 ∧ a < n ∧ 43 ≤ a) ∧ vp_in j (a_ln E a)) ∧ Tm E m is ls st (hI hi a j.toNatClampNeg v) hr n Q := by
  rw [T_sem (fun _ => rfl)]; exact tS_if
theorem T_bast (a : Nat) (j v : Int32) : Tm E m (o_bast :: is) ls (.int v :: .int j :: .ref a :: st) hi hr n Q ↔ (((a_kd a = 21 ∨ a_kd a = 22) ∧ a < n ∧ 43 ≤ a) ∧ vp_in j (a_ln E a)) ∧ Tm E m is ls st (hI hi a j.toNatClampNeg (if a_kd a = 21 then a_byte v else a_bool v)) hr n Q := by
  rw [T_sem (fun _ => rfl)]; exact tS_if
theorem T_aast (a v : Nat) (j : Int32) : Tm E m (o_aast :: is) ls (.ref v :: .int j :: .ref a :: st) hi hr n Q ↔ (((30 ≤ a_kd a ∧ a_kd a ≤ 42) ∧ a < n ∧ 43 ≤ a) ∧ (a_kd v + 30 = a_kd a ∧ v < n) ∧ vp_in j (a_ln E a)) ∧ Tm E m is ls st hi (hR hr a j.toNatClampNeg (some v)) n Q := by
  rw [T_sem (fun _ => rfl)]; exact tS_if
theorem T_alen (a : Nat) : Tm E m (o_alen :: is) ls (.ref a :: st) hi hr n Q ↔ ((20 ≤ a_kd a ∧ a_kd a ≤ 50) ∧ a < n) ∧ Tm E m is ls (.int (nI (a_ln E a)) :: st) hi hr n Q := by
  rw [T_sem (fun _ => rfl)]; exact tS_if
theorem T_obj (a : Nat) : Tm E m (o_obj :: is) ls (.ref a :: st) hi hr n Q ↔ (43 ≤ a ∧ st.length ≤ 4) ∧ Tm E m is ls st hi hr n Q := by
  rw [T_sem (fun _ => rfl)]; exact tS_if
theorem T_cp (a d : Nat) (c dp sp : Int32) : Tm E m (o_cp :: is) ls (.int c :: .int dp :: .ref d :: .int sp :: .ref a :: st) hi hr n Q ↔ (((a_kd a = 20 ∨ a_kd a = 21) ∧ a_kd d = a_kd a ∧ a < n ∧ d < n ∧ 43 ≤ a ∧ 43 ≤ d) ∧ (¬ sp < 0 ∧ ¬ dp < 0 ∧ ¬ c < 0) ∧ sp.toNatClampNeg + c.toNatClampNeg ≤ a_ln E a ∧ dp.toNatClampNeg + c.toNatClampNeg ≤ a_ln E d ∧ st.length ≤ 4) ∧ Tm E m is ls st (a_cpy E hi a sp.toNatClampNeg d dp.toNatClampNeg c.toNatClampNeg) hr n Q := by
  rw [T_sem (fun _ => rfl)]; exact tS_if
/-! jumps -/
theorem T_goto (L : Nat) : Tm E m (o_goto L :: is) ls st hi hr n Q ↔ Tm E m (a_bl m L) ls st hi hr n Q := T_step fun f => rfl
theorem T_ft (L : Nat) : Tm E m (o_ft L :: is) ls st hi hr n Q ↔ Tm E m (a_bl m L) ls st hi hr n Q := T_step fun f => rfl
theorem T_br {o : AOp} {L : Nat} {c : Prop} [Decidable c] {st' : List Value} (h : ∀ f, a_ex E (f + 1) m (o :: is) ls st hi hr n = a_ex E f m (bif decide c then a_bl m L else is) ls st' hi hr n) : Tm E m (o :: is) ls st hi hr n Q ↔ if c then Tm E m (a_bl m L) ls st' hi hr n Q else Tm E m is ls st' hi hr n Q := by
  by_cases hc : c
  · rw [if_pos hc]
    refine T_step fun f => ?_
    rw [h f, decide_eq_true hc]
    rfl
  · rw [if_neg hc]
    refine T_step fun f => ?_
    rw [h f, decide_eq_false hc]
    rfl
theorem T_ifeq (L : Nat) (x : Int32) : Tm E m (o_if 0 L :: is) ls (.int x :: st) hi hr n Q ↔ if x = 0 then Tm E m (a_bl m L) ls st hi hr n Q else Tm E m is ls st hi hr n Q := T_br fun f => rfl
theorem T_iceq (L : Nat) (x y : Int32) : Tm E m (o_ic 0 L :: is) ls (.int y :: .int x :: st) hi hr n Q ↔ if x = y then Tm E m (a_bl m L) ls st hi hr n Q else Tm E m is ls st hi hr n Q := T_br fun f => rfl
theorem T_ifne (L : Nat) (x : Int32) : Tm E m (o_if 1 L :: is) ls (.int x :: st) hi hr n Q ↔ if ¬ x = 0 then Tm E m (a_bl m L) ls st hi hr n Q else Tm E m is ls st hi hr n Q := T_br fun f => rfl
theorem T_icne (L : Nat) (x y : Int32) : Tm E m (o_ic 1 L :: is) ls (.int y :: .int x :: st) hi hr n Q ↔ if ¬ x = y then Tm E m (a_bl m L) ls st hi hr n Q else Tm E m is ls st hi hr n Q := T_br fun f => rfl
theorem T_iflt (L : Nat) (x : Int32) : Tm E m (o_if 2 L :: is) ls (.int x :: st) hi hr n Q ↔ if x < 0 then Tm E m (a_bl m L) ls st hi hr n Q else Tm E m is ls st hi hr n Q := T_br fun f => rfl
theorem T_iclt (L : Nat) (x y : Int32) : Tm E m (o_ic 2 L :: is) ls (.int y :: .int x :: st) hi hr n Q ↔ if x < y then Tm E m (a_bl m L) ls st hi hr n Q else Tm E m is ls st hi hr n Q := T_br fun f => rfl
theorem T_ifge (L : Nat) (x : Int32) : Tm E m (o_if 3 L :: is) ls (.int x :: st) hi hr n Q ↔ if 0 ≤ x then Tm E m (a_bl m L) ls st hi hr n Q else Tm E m is ls st hi hr n Q := T_br fun f => rfl
theorem T_icge (L : Nat) (x y : Int32) : Tm E m (o_ic 3 L :: is) ls (.int y :: .int x :: st) hi hr n Q ↔ if y ≤ x then Tm E m (a_bl m L) ls st hi hr n Q else Tm E m is ls st hi hr n Q := T_br fun f => rfl
theorem T_ifgt (L : Nat) (x : Int32) : Tm E m (o_if 4 L :: is) ls (.int x :: st) hi hr n Q ↔ if 0 < x then Tm E m (a_bl m L) ls st hi hr n Q else Tm E m is ls st hi hr n Q := T_br fun f => rfl
theorem T_icgt (L : Nat) (x y : Int32) : Tm E m (o_ic 4 L :: is) ls (.int y :: .int x :: st) hi hr n Q ↔ if y < x then Tm E m (a_bl m L) ls st hi hr n Q else Tm E m is ls st hi hr n Q := T_br fun f => rfl
theorem T_ifle (L : Nat) (x : Int32) : Tm E m (o_if 5 L :: is) ls (.int x :: st) hi hr n Q ↔ if x ≤ 0 then Tm E m (a_bl m L) ls st hi hr n Q else Tm E m is ls st hi hr n Q := T_br fun f => rfl
theorem T_icle (L : Nat) (x y : Int32) : Tm E m (o_ic 5 L :: is) ls (.int y :: .int x :: st) hi hr n Q ↔ if x ≤ y then Tm E m (a_bl m L) ls st hi hr n Q else Tm E m is ls st hi hr n Q := T_br fun f => rfl
/-! the end -/
theorem T_ret (c : Nat) : Tm E m (o_ret c :: is) ls st hi hr n Q ↔ ∃ v, a_rv (a_rt m) c st = some v ∧ Q (v, hi, hr, n) := by
  constructor
  · rintro ⟨f, r, h1, h2⟩
    cases f with
    | zero => cases h1
    | succ f =>
      change (match a_rv (a_rt m) c st with | some v => some (v, hi, hr, n) | none => none) = some r at h1
      split at h1
      · cases h1
        exact ⟨_, by assumption, h2⟩
      · cases h1
  · rintro ⟨v, h1, h2⟩
    refine ⟨1, _, ?_, h2⟩
    change (match a_rv (a_rt m) c st with | some v => some (v, hi, hr, n) | none => none) = _
    rw [h1]
/-! calls -/
/-- a method's run -/
def Sp (E : AEn) (m : Nat) (as : List Value) (hi : AHi) (hr : AHr) (n : Nat) (Q : ARs → Prop) : Prop := Tm E m (a_bl m 0) (a_pad (a_ml m) (a_args as)) [] hi hr n Q
theorem T_call (m' : Nat) : Tm E m (o_call m' :: is) ls st hi hr n Q ↔ (a_ar m' ≤ st.length ∧ (st.drop (a_ar m')).length ≤ 4 ∧ a_cok m' n (st.take (a_ar m')).reverse = true) ∧ Sp E m' (st.take (a_ar m')).reverse hi hr n (fun r => Tm E m is ls (r.1.toList ++ st.drop (a_ar m')) r.2.1 r.2.2.1 r.2.2.2 Q) := by
  constructor
  · rintro ⟨f, r, h1, h2⟩
    cases f with
    | zero => cases h1
    | succ f =>
      rw [ex_call (o := o_call m') rfl] at h1
      split at h1
      · rename_i hc
        split at h1
        · rename_i r1 h3
          exact ⟨hc, f, r1, h3, f, r, h1, h2⟩
        · cases h1
      · cases h1
  · rintro ⟨hc, f, r1, h1, g, r, h2, h3⟩
    refine ⟨f + g + 1, r, ?_, h3⟩
    rw [ex_call (o := o_call m') rfl]
    have hc' : a_ar (o_call m').2.1 ≤ st.length ∧ (st.drop (a_ar (o_call m').2.1)).length ≤ 4 ∧ a_cok (o_call m').2.1 n (st.take (a_ar (o_call m').2.1)).reverse = true := hc
    rw [if_pos hc']
    have e1 := ex_more f (f + g) _ _ _ _ _ _ _ _ (by omega) h1
    change (match a_ex E (f + g) m' (a_bl m' 0) (a_pad (a_ml m') (a_args (st.take (a_ar m')).reverse)) [] hi hr n with | some r => a_ex E (f + g) m is ls (r.1.toList ++ st.drop (a_ar m')) r.2.1 r.2.2.1 r.2.2.2 | none => none) = _
    rw [e1]
    exact ex_more g (f + g) _ _ _ _ _ _ _ _ (by omega) h2
/-- what a run is known to give -/
theorem Sp_eq {m' : Nat} {as : List Value} {r : ARs} (h : Sp E m' as hi hr n (fun q => q = r)) : Sp E m' as hi hr n Q ↔ Q r := by
  obtain ⟨f, q, h1, rfl⟩ := h
  constructor
  · rintro ⟨g, q2, h3, h4⟩
    have e1 := ex_more f (f + g) _ _ _ _ _ _ _ _ (by omega) h1
    have e2 := ex_more g (f + g) _ _ _ _ _ _ _ _ (by omega) h3
    cases e1.symm.trans e2
    exact h4
  · intro hq
    exact ⟨f, q, h1, hq⟩
end TL

/-- all of them, for simp -/
theorem TT : (type_of% @T_I) ∧ (type_of% @T_L) ∧ (type_of% @T_il) ∧ (type_of% @T_ll) ∧ (type_of% @T_al) ∧ (type_of% @T_is) ∧ (type_of% @T_lst) ∧ (type_of% @T_as) ∧ (type_of% @T_iinc) ∧ (type_of% @T_add) ∧ (type_of% @T_sub) ∧ (type_of% @T_mul) ∧ (type_of% @T_and) ∧ (type_of% @T_or) ∧ (type_of% @T_xor) ∧ (type_of% @T_shl) ∧ (type_of% @T_shr) ∧ (type_of% @T_ushr) ∧ (type_of% @T_div) ∧ (type_of% @T_rem) ∧ (type_of% @T_addL) ∧ (type_of% @T_subL) ∧ (type_of% @T_mulL) ∧ (type_of% @T_lcmp) ∧ (type_of% @T_xorL) ∧ (type_of% @T_divL) ∧ (type_of% @T_remL) ∧ (type_of% @T_neg) ∧ (type_of% @T_i2l) ∧ (type_of% @T_i2b) ∧ (type_of% @T_i2c) ∧ (type_of% @T_l2i) ∧ (type_of% @T_dupI) ∧ (type_of% @T_dupR) ∧ (type_of% @T_popI) ∧ (type_of% @T_dup2) ∧ (type_of% @T_getI) ∧ (type_of% @T_getR) ∧ (type_of% @T_putI) ∧ (type_of% @T_putZ) ∧ (type_of% @T_putR) ∧ (type_of% @T_cR) ∧ (type_of% @T_iald) ∧ (type_of% @T_bald) ∧ (type_of% @T_aald) ∧ (type_of% @T_iast) ∧ (type_of% @T_bast) ∧ (type_of% @T_aast) ∧ (type_of% @T_alen) ∧ (type_of% @T_obj) ∧ (type_of% @T_cp) ∧ (type_of% @T_goto) ∧ (type_of% @T_ft) ∧ (type_of% @T_ifeq) ∧ (type_of% @T_iceq) ∧ (type_of% @T_ifne) ∧ (type_of% @T_icne) ∧ (type_of% @T_iflt) ∧ (type_of% @T_iclt) ∧ (type_of% @T_ifge) ∧ (type_of% @T_icge) ∧ (type_of% @T_ifgt) ∧ (type_of% @T_icgt) ∧ (type_of% @T_ifle) ∧ (type_of% @T_icle) ∧ (type_of% @lI_i) ∧ (type_of% @lL_l) ∧ (type_of% @lR_r) ∧ (type_of% @lR_n) :=
  ⟨@T_I, @T_L, @T_il, @T_ll, @T_al, @T_is, @T_lst, @T_as, @T_iinc, @T_add, @T_sub, @T_mul, @T_and, @T_or, @T_xor, @T_shl, @T_shr, @T_ushr, @T_div, @T_rem, @T_addL, @T_subL, @T_mulL, @T_lcmp, @T_xorL, @T_divL, @T_remL, @T_neg, @T_i2l, @T_i2b, @T_i2c, @T_l2i, @T_dupI, @T_dupR, @T_popI, @T_dup2, @T_getI, @T_getR, @T_putI, @T_putZ, @T_putR, @T_cR, @T_iald, @T_bald, @T_aald, @T_iast, @T_bast, @T_aast, @T_alen, @T_obj, @T_cp, @T_goto, @T_ft, @T_ifeq, @T_iceq, @T_ifne, @T_icne, @T_iflt, @T_iclt, @T_ifge, @T_icge, @T_ifgt, @T_icgt, @T_ifle, @T_icle, @lI_i, @lL_l, @lR_r, @lR_n⟩
theorem ls_0 {α : Type} (a : α) (l : List α) : (a :: l)[0]? = some a := rfl
theorem ls_s {α : Type} (a : α) (l : List α) (i : Nat) : (a :: l)[i + 1]? = l[i]? := rfl
theorem st1_0 (a v : Value) (l : List Value) : a_st1 (a :: l) 0 v = v :: l := rfl
/-- storing behind a value that is no long -/
theorem st1_1 (a v : Value) (x : Int32) (l : List Value) : a_st1 (.int x :: a :: l) 1 v = .int x :: v :: l := rfl
theorem st1_1r (a v : Value) (x : Nat) (l : List Value) : a_st1 (.ref x :: a :: l) 1 v = .ref x :: v :: l := rfl
theorem st1_1m (a v : Value) (l : List Value) : a_st1 (a_mk :: a :: l) 1 v = a_mk :: v :: l := rfl
theorem st1_s (a b v : Value) (l : List Value) (i : Nat) : a_st1 (a :: b :: l) (i + 2) v = a :: a_st1 (b :: l) (i + 1) v := by
  show (match (b :: l)[i]? with | some (.long _) => ((a :: b :: l).set (i + 1) a_mk).set (i + 2) v | _ => (a :: b :: l).set (i + 2) v) = a :: (match (b :: l)[i]? with | some (.long _) => ((b :: l).set i a_mk).set (i + 1) v | _ => (b :: l).set (i + 1) v)
  split <;> rfl
theorem lt_run {a n : Nat} (hn : 775 ≤ n) (h : a < 775) : (a < n) = True := eq_true (by omega)
theorem aref_s (a : Nat) : a_ref (some a) = .ref a := rfl
theorem opt_tl (v : Value) : (some v : Option Value).toList = [v] := rfl
theorem opt_tn : (none : Option Value).toList = [] := rfl
theorem rI_run {E : AEn} {h : AHi} {a k : Nat} (h1 : 43 ≤ a) : rI E h a k = h a k := rI_hi h1
theorem rR_run {h : AHr} {a k : Nat} (h1 : 43 ≤ a) : rR h a k = h a k := rR_hi h1
/-- what is always wanted -/
theorem TX : (type_of% @TT) ∧ (type_of% @T_ret) ∧ (type_of% @ls_0) ∧ (type_of% @ls_s) ∧ (type_of% @st1_0) ∧ (type_of% @st1_1) ∧ (type_of% @st1_1r) ∧ (type_of% @st1_1m) ∧ (type_of% @st1_s) ∧ (type_of% @aref_s) ∧ (type_of% @opt_tl) ∧ (type_of% @opt_tn) ∧ (type_of% @rI_run) ∧ (type_of% @rR_run) :=
  ⟨TT, @T_ret, @ls_0, @ls_s, @st1_0, @st1_1, @st1_1r, @st1_1m, @st1_s, @aref_s, @opt_tl, @opt_tn, @rI_run, @rR_run⟩
/-- a call with three ints, of a static method -/
theorem T_c3 {E : AEn} {m m' : Nat} {is : List AOp} {ls st : List Value} {hi : AHi} {hr : AHr} {n : Nat} {Q : ARs → Prop} {x y z : Value} (ha : a_ar m' = 3) (hl : st.length ≤ 4) (hk : a_cok m' n [x, y, z] = true) : Tm E m (o_call m' :: is) ls (z :: y :: x :: st) hi hr n Q ↔ Sp E m' [x, y, z] hi hr n (fun r => Tm E m is ls (r.1.toList ++ st) r.2.1 r.2.2.1 r.2.2.2 Q) := by
  rw [T_call, ha]
  exact ⟨fun h => h.2, fun h => ⟨⟨by simp, hl, hk⟩, h⟩⟩
