/-! new objects: a run of the constructors by the kernel, with lists for heaps -/
abbrev LgI : Type := List (Nat × Nat × Int32)
abbrev LgR : Type := List (Nat × Nat × Nat)
def LI (l : LgI) : AHi := fun a k => ((l.find? (fun e => Nat.beq e.1 a && Nat.beq e.2.1 k)).map (fun e => e.2.2)).getD 0
def LR (l : LgR) : AHr := fun a k => (l.find? (fun e => Nat.beq e.1 a && Nat.beq e.2.1 k)).map (fun e => e.2.2)
abbrev CSt : Type := List Value × List Value × LgI × LgR × Nat
abbrev CRs : Type := Option Value × LgI × LgR × Nat
def fsh (i : LgI) (r : LgR) (n : Nat) : Bool := i.all (fun e => Nat.blt e.1 n) && r.all (fun e => Nat.blt e.1 n)
def c_rows (r : LgR) (n : Nat) : Nat → LgR
  | 0 => r
  | c + 1 => (n, c, n + 1 + c) :: c_rows r n c
def c_pu (c : Nat) : Bool := Nat.beq c 1 || Nat.beq c 3 || Nat.beq c 5 || Nat.beq c 6 || Nat.beq c 9 || Nat.beq c 10 || Nat.beq c 13 || Nat.beq c 20 || Nat.beq c 32
def c_sem (o : AOp) (ls st : List Value) (i : LgI) (r : LgR) (n : Nat) : Option CSt :=
  if c_pu o.1 = true then (match a_sem (0, fun _ => 0) o ls st (fun _ _ => 0) (fun _ _ => none) n with
    | some S => some (S.1, S.2.1, i, r, n)
    | none => none)
  else if o.1 = 17 then (match st with
    | .ref a :: st => if a_kd a = o.2.1 ∧ a < n ∧ 43 ≤ a then some (ls, a_ref (LR r a o.2.2.1) :: st, i, r, n) else none
    | _ => none)
  else if o.1 = 18 then (match st with
    | .int v :: .ref a :: st => if (a_kd a = o.2.1 ∧ a < n ∧ 43 ≤ a) ∧ o.2.2.2.1 = 0 then some (ls, st, (a, o.2.2.1, v) :: i, r, n) else none
    | _ => none)
  else if o.1 = 19 then (match st with
    | .ref v :: .ref a :: st => if a_kd a = o.2.1 ∧ a < n ∧ 43 ≤ a then some (ls, st, i, (a, o.2.2.1, v) :: r, n) else none
    | _ => none)
  else if o.1 = 23 then (match st with
    | .int j :: .ref a :: st => if ((30 ≤ a_kd a ∧ a_kd a ≤ 50 ∧ a < n) ∧ 43 ≤ a) ∧ ¬ (j < 0 ∨ a_lnS a ≤ j.toNatClampNeg) then some (ls, a_ref (LR r a j.toNatClampNeg) :: st, i, r, n) else none
    | _ => none)
  else if o.1 = 24 then (match st with
    | .int v :: .int j :: .ref a :: st => if (a_kd a = 20 ∧ a < n ∧ 43 ≤ a) ∧ ¬ (j < 0 ∨ a_lnS a ≤ j.toNatClampNeg) then some (ls, st, (a, j.toNatClampNeg, v) :: i, r, n) else none
    | _ => none)
  else if o.1 = 26 then (match st with
    | .ref v :: .int j :: .ref a :: st => if ((30 ≤ a_kd a ∧ a_kd a ≤ 42) ∧ a < n ∧ 43 ≤ a) ∧ (a_kd v + 30 = a_kd a ∧ v < n) ∧ ¬ (j < 0 ∨ a_lnS a ≤ j.toNatClampNeg) then some (ls, st, i, (a, j.toNatClampNeg, v) :: r, n) else none
    | _ => none)
  else if o.1 = 27 then (match st with
    | .ref a :: st => if ((20 ≤ a_kd a ∧ a_kd a ≤ 50) ∧ a < n) ∧ 43 ≤ a then some (ls, .int (nI (a_lnS a)) :: st, i, r, n) else none
    | _ => none)
  else if o.1 = 28 then (if (a_kd n = o.2.1 ∧ 43 ≤ n) ∧ fsh i r n = true then some (ls, .ref n :: st, i, r, n + 1) else none)
  else if o.1 = 29 then (match st with
    | .int j :: st => if (a_kd n = o.2.1 ∧ ¬ j < 0 ∧ a_lnS n = j.toNatClampNeg ∧ j.toNatClampNeg ≤ 60000) ∧ 43 ≤ n ∧ fsh i r n = true then some (ls, .ref n :: st, i, r, n + 1) else none
    | _ => none)
  else if o.1 = 30 then (match st with
    | .int j :: st => if (a_kd n = o.2.1 ∧ ¬ j < 0 ∧ a_lnS n = j.toNatClampNeg ∧ j.toNatClampNeg ≤ 60000) ∧ 43 ≤ n ∧ fsh i r n = true then some (ls, .ref n :: st, i, r, n + 1) else none
    | _ => none)
  else if o.1 = 31 then (match st with
    | .int k :: .int j :: st => if (a_kd n = 50 ∧ ¬ j < 0 ∧ ¬ k < 0 ∧ a_lnS n = j.toNatClampNeg ∧ j.toNatClampNeg ≤ 60000 ∧ k.toNatClampNeg ≤ 60000 ∧ ∀ i, i < j.toNatClampNeg → a_kd (n + 1 + i) = 20 ∧ a_lnS (n + 1 + i) = k.toNatClampNeg) ∧ 43 ≤ n ∧ fsh i r n = true then some (ls, .ref n :: st, i, c_rows r n j.toNatClampNeg, n + 1 + j.toNatClampNeg) else none
    | _ => none)
  else none
def c_ex : Nat → Nat → List AOp → List Value → List Value → LgI → LgR → Nat → Option CRs
  | 0, _, _, _, _, _, _, _ => none
  | _ + 1, _, [], _, _, _, _, _ => none
  | f + 1, m, o :: is, ls, st, i, r, n =>
    if o.1 = 100 then c_ex f m (a_bl m o.2.1) ls st i r n
    else if o.1 = 105 then c_ex f m (a_bl m o.2.1) ls st i r n
    else if o.1 = 101 then (match a_cnd o.2.2.1 st with
      | some q => c_ex f m (bif q.1 then a_bl m o.2.1 else is) ls q.2 i r n
      | none => none)
    else if o.1 = 103 then (if a_ar o.2.1 ≤ st.length ∧ (st.drop (a_ar o.2.1)).length ≤ 4 ∧ a_cok o.2.1 n (st.take (a_ar o.2.1)).reverse = true then
        (match c_ex f o.2.1 (a_bl o.2.1 0) (a_pad (a_ml o.2.1) (a_args (st.take (a_ar o.2.1)).reverse)) [] i r n with
        | some q => c_ex f m is ls (q.1.toList ++ st.drop (a_ar o.2.1)) q.2.1 q.2.2.1 q.2.2.2
        | none => none)
      else none)
    else if o.1 = 104 then (match a_rv (a_rt m) o.2.1 st with
      | some v => some (v, i, r, n)
      | none => none)
    else (match c_sem o ls st i r n with
      | some S => c_ex f m is S.1 S.2.1 S.2.2.1 S.2.2.2.1 S.2.2.2.2
      | none => none)
theorem LI_c (l : LgI) (a k : Nat) (v : Int32) : hI (LI l) a k v = LI ((a, k, v) :: l) := by
  funext x y
  by_cases e : x = a
  · subst e
    by_cases e2 : y = k
    · subst e2
      rw [hI_s]
      unfold LI
      rw [List.find?_cons_of_pos (by simp)]
      rfl
    · rw [hI_k e2]
      unfold LI
      rw [List.find?_cons_of_neg (by simp; exact fun q => e2 q.symm)]
  · rw [hI_o e]
    unfold LI
    rw [List.find?_cons_of_neg (by simp; exact fun q => absurd q.symm e)]
theorem LR_c (l : LgR) (a k v : Nat) : hR (LR l) a k (some v) = LR ((a, k, v) :: l) := by
  funext x y
  by_cases e : x = a
  · subst e
    by_cases e2 : y = k
    · subst e2
      rw [hR_s]
      unfold LR
      rw [List.find?_cons_of_pos (by simp)]
      rfl
    · rw [hR_k e2]
      unfold LR
      rw [List.find?_cons_of_neg (by simp; exact fun q => e2 q.symm)]
  · rw [hR_o e]
    unfold LR
    rw [List.find?_cons_of_neg (by simp; exact fun q => absurd q.symm e)]
/-- nothing is written of a cell that is not there yet -/
theorem LI_f {i : LgI} {r : LgR} {n : Nat} (h : fsh i r n = true) {a : Nat} (ha : n ≤ a) : LI i a = fun _ => 0 := by
  funext k
  unfold LI
  have h1 := (Bool.and_eq_true _ _).mp h
  have : i.find? (fun e => Nat.beq e.1 a && Nat.beq e.2.1 k) = none := by
    rw [List.find?_eq_none]
    intro e he q
    have h2 := List.all_eq_true.mp h1.1 e he
    have h3 : e.1 < n := Nat.le_of_ble_eq_true h2
    have h4 := Nat.eq_of_beq_eq_true ((Bool.and_eq_true _ _).mp q).1
    omega
  rw [this]
  rfl
theorem LR_f {i : LgI} {r : LgR} {n : Nat} (h : fsh i r n = true) {a : Nat} (ha : n ≤ a) : LR r a = fun _ => none := by
  funext k
  unfold LR
  have h1 := (Bool.and_eq_true _ _).mp h
  have : r.find? (fun e => Nat.beq e.1 a && Nat.beq e.2.1 k) = none := by
    rw [List.find?_eq_none]
    intro e he q
    have h2 := List.all_eq_true.mp h1.2 e he
    have h3 : e.1 < n := Nat.le_of_ble_eq_true h2
    have h4 := Nat.eq_of_beq_eq_true ((Bool.and_eq_true _ _).mp q).1
    omega
  rw [this]
  rfl
theorem va_id {α : Type} {h : Nat → α} {n : Nat} {v : α} (e : h n = v) : va_up h n v = h := by
  funext x
  by_cases q : x = n
  · rw [q, va_up_self, e]
  · rw [va_up_ne _ _ q]
