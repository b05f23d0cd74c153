/-! What a method's frame stands on -/
def Cx (p : Program) (R : Room) (s : State) (mid : MethodId) (meth : Method) (c : Code) (m : Nat) : Prop :=
  p.tables.exec = Jvm.exec ∧ c.code = a_code m ∧ c.maxLocals = a_ml m ∧ s.vm.findClass (a_y m).cls = some mid.cls ∧ meth.sig.returnType = a_rt m ∧ meth.locks = false ∧ ((a_y m).name = "<init>" → meth.name = "<init>") ∧ R.frames = a_fr m ∧ R.locals = a_lo m ∧ m < 360
/-- what the abstract operations are -/
theorem sem_I {E ls st hi hr n} (v : Int32) : a_sem E (o_I v) ls st hi hr n = some (ls, .int v :: st, hi, hr, n) := by
  show some (ls, Value.int (Int32.ofInt v.toInt) :: st, hi, hr, n) = _
  rw [Int32.ofInt_toInt]
theorem sem_L {E ls st hi hr n} (v : Int64) : a_sem E (o_L v) ls st hi hr n = some (ls, .long v :: st, hi, hr, n) := by
  show some (ls, Value.long (Int64.ofInt v.toInt) :: st, hi, hr, n) = _
  rw [Int64.ofInt_toInt]
theorem inv_il {E ls st hi hr n S i} (h : a_sem E (o_il i) ls st hi hr n = some S) : ∃ x, ls[i]? = some (.int x) ∧ S = (ls, .int x :: st, hi, hr, n) := by
  change (match (generalizing := false) ls[i]? with | some (.int x) => some (ls, Value.int x :: st, hi, hr, n) | _ => none) = some S at h
  split at h <;> cases h
  exact ⟨_, by assumption, rfl⟩
theorem inv_ll {E ls st hi hr n S i} (h : a_sem E (o_ll i) ls st hi hr n = some S) : ∃ x, ls[i]? = some (.long x) ∧ S = (ls, .long x :: st, hi, hr, n) := by
  change (match (generalizing := false) ls[i]? with | some (.long x) => some (ls, Value.long x :: st, hi, hr, n) | _ => none) = some S at h
  split at h <;> cases h
  exact ⟨_, by assumption, rfl⟩
theorem inv_al {E ls st hi hr n S i} (h : a_sem E (o_al i) ls st hi hr n = some S) : ∃ v, ls[i]? = some v ∧ (v = .null ∨ ∃ x, v = .ref x) ∧ S = (ls, v :: st, hi, hr, n) := by
  change (match (generalizing := false) ls[i]? with | some (.ref x) => some (ls, Value.ref x :: st, hi, hr, n) | some .null => some (ls, Value.null :: st, hi, hr, n) | _ => none) = some S at h
  split at h <;> cases h
  · exact ⟨_, by assumption, Or.inr ⟨_, rfl⟩, rfl⟩
  · exact ⟨_, by assumption, Or.inl rfl, rfl⟩
theorem inv_is {E ls st hi hr n S i} (h : a_sem E (o_is i) ls st hi hr n = some S) : ∃ x st', st = .int x :: st' ∧ i < ls.length ∧ S = (a_st1 ls i (.int x), st', hi, hr, n) := by
  change (match (generalizing := false) st with | .int x :: st => if i < ls.length then some (a_st1 ls i (.int x), st, hi, hr, n) else none | _ => none) = some S at h
  split at h
  · split at h <;> cases h
    exact ⟨_, _, rfl, by assumption, rfl⟩
  · cases h
theorem inv_lst {E ls st hi hr n S i} (h : a_sem E (o_lst i) ls st hi hr n = some S) : ∃ x st', st = .long x :: st' ∧ i + 1 < ls.length ∧ S = (a_st2 ls i (.long x), st', hi, hr, n) := by
  change (match (generalizing := false) st with | .long x :: st => if i + 1 < ls.length then some (a_st2 ls i (.long x), st, hi, hr, n) else none | _ => none) = some S at h
  split at h
  · split at h <;> cases h
    exact ⟨_, _, rfl, by assumption, rfl⟩
  · cases h
theorem inv_as {E ls st hi hr n S i} (h : a_sem E (o_as i) ls st hi hr n = some S) : ∃ v st', st = v :: st' ∧ (v = .null ∨ ∃ x, v = .ref x) ∧ i < ls.length ∧ S = (a_st1 ls i v, st', hi, hr, n) := by
  change (match (generalizing := false) st with | .ref x :: st => if i < ls.length then some (a_st1 ls i (.ref x), st, hi, hr, n) else none | .null :: st => if i < ls.length then some (a_st1 ls i .null, st, hi, hr, n) else none | _ => none) = some S at h
  split at h
  · split at h <;> cases h
    exact ⟨_, _, rfl, Or.inr ⟨_, rfl⟩, by assumption, rfl⟩
  · split at h <;> cases h
    exact ⟨_, _, rfl, Or.inl rfl, by assumption, rfl⟩
  · cases h
theorem inv_iinc {E ls st hi hr n S i} {v : Int32} (h : a_sem E (o_iinc i v) ls st hi hr n = some S) : ∃ x, ls[i]? = some (.int x) ∧ S = (a_st1 ls i (.int (x + v)), st, hi, hr, n) := by
  change (match (generalizing := false) ls[i]? with | some (.int x) => some (a_st1 ls i (.int (x + Int32.ofInt v.toInt)), st, hi, hr, n) | _ => none) = some S at h
  rw [Int32.ofInt_toInt] at h
  split at h <;> cases h
  exact ⟨_, by assumption, rfl⟩
theorem inv_bin {E ls st hi hr n S c} (h : a_sem E (o_bin c) ls st hi hr n = some S) : ∃ x y z st', st = .int y :: .int x :: st' ∧ a_bin c x y = some z ∧ S = (ls, .int z :: st', hi, hr, n) := by
  change (match (generalizing := false) st with | .int y :: .int x :: st => (match a_bin c x y with | some z => some (ls, Value.int z :: st, hi, hr, n) | none => none) | _ => none) = some S at h
  split at h
  · split at h <;> cases h
    exact ⟨_, _, _, _, rfl, by assumption, rfl⟩
  · cases h
theorem inv_binL {E ls st hi hr n S c} (h : a_sem E (o_binL c) ls st hi hr n = some S) : ∃ x y z st', st = .long y :: .long x :: st' ∧ a_binL c x y = some z ∧ S = (ls, z :: st', hi, hr, n) := by
  change (match (generalizing := false) st with | .long y :: .long x :: st => (match a_binL c x y with | some z => some (ls, z :: st, hi, hr, n) | none => none) | _ => none) = some S at h
  split at h
  · split at h <;> cases h
    exact ⟨_, _, _, _, rfl, by assumption, rfl⟩
  · cases h
theorem inv_un {E ls st hi hr n S c} (h : a_sem E (o_un c) ls st hi hr n = some S) : ∃ v z st', st = v :: st' ∧ a_un c v = some z ∧ S = (ls, z :: st', hi, hr, n) := by
  change (match (generalizing := false) st with | v :: st => (match a_un c v with | some z => some (ls, z :: st, hi, hr, n) | none => none) | _ => none) = some S at h
  split at h
  · split at h <;> cases h
    exact ⟨_, _, _, rfl, by assumption, rfl⟩
  · cases h
theorem inv_dup {E ls st hi hr n S} (h : a_sem E o_dup ls st hi hr n = some S) : ∃ v st', st = v :: st' ∧ v.category = 1 ∧ S = (ls, v :: v :: st', hi, hr, n) := by
  change (match (generalizing := false) st with | v :: st => if v.category = 1 then some (ls, v :: v :: st, hi, hr, n) else none | _ => none) = some S at h
  split at h
  · split at h <;> cases h
    exact ⟨_, _, rfl, by assumption, rfl⟩
  · cases h
theorem inv_pop {E ls st hi hr n S} (h : a_sem E o_pop ls st hi hr n = some S) : ∃ v st', st = v :: st' ∧ v.category = 1 ∧ S = (ls, st', hi, hr, n) := by
  change (match (generalizing := false) st with | v :: st => if v.category = 1 then some (ls, st, hi, hr, n) else none | _ => none) = some S at h
  split at h
  · split at h <;> cases h
    exact ⟨_, _, rfl, by assumption, rfl⟩
  · cases h
theorem inv_dup2 {E ls st hi hr n S} (h : a_sem E o_dup2 ls st hi hr n = some S) : ∃ v w st', st = v :: w :: st' ∧ (v.category = 1 ∧ w.category = 1) ∧ S = (ls, v :: w :: v :: w :: st', hi, hr, n) := by
  change (match (generalizing := false) st with | v :: w :: st => if v.category = 1 ∧ w.category = 1 then some (ls, v :: w :: v :: w :: st, hi, hr, n) else none | _ => none) = some S at h
  split at h
  · split at h <;> cases h
    exact ⟨_, _, _, rfl, by assumption, rfl⟩
  · cases h
theorem inv_getI {E ls st hi hr n S C k} (h : a_sem E (o_getI C k) ls st hi hr n = some S) : ∃ a st', st = Value.ref a :: st' ∧ (a_kd a = C ∧ a < n) ∧ S = (ls, Value.int (rI E hi a k) :: st', hi, hr, n) := by
  change (match (generalizing := false) st with | Value.ref a :: st => if a_kd a = C ∧ a < n then some (ls, Value.int (rI E hi a k) :: st, hi, hr, n) else none | _ => none) = some S at h
  split at h
  · split at h <;> cases h
    exact ⟨_, _, rfl, by assumption, rfl⟩
  · cases h
theorem inv_getR {E ls st hi hr n S C k} (h : a_sem E (o_getR C k) ls st hi hr n = some S) : ∃ a st', st = Value.ref a :: st' ∧ (a_kd a = C ∧ a < n) ∧ S = (ls, a_ref (rR hr a k) :: st', hi, hr, n) := by
  change (match (generalizing := false) st with | Value.ref a :: st => if a_kd a = C ∧ a < n then some (ls, a_ref (rR hr a k) :: st, hi, hr, n) else none | _ => none) = some S at h
  split at h
  · split at h <;> cases h
    exact ⟨_, _, rfl, by assumption, rfl⟩
  · cases h
theorem inv_putI {E ls st hi hr n S C k} (h : a_sem E (o_putI C k) ls st hi hr n = some S) : ∃ v a st', st = Value.int v :: Value.ref a :: st' ∧ ((a_kd a = C ∧ a < n ∧ 43 ≤ a) ∧ ((0 : Int) = 0 ∨ v = 0 ∨ v = 1)) ∧ S = (ls, st', hI hi a k v, hr, n) := by
  change (match (generalizing := false) st with | Value.int v :: Value.ref a :: st => if (a_kd a = C ∧ a < n ∧ 43 ≤ a) ∧ ((0 : Int) = 0 ∨ v = 0 ∨ v = 1) then some (ls, st, hI hi a k v, hr, n) else none | _ => none) = some S at h
  split at h
  · split at h <;> cases h
    exact ⟨_, _, _, rfl, by assumption, rfl⟩
  · cases h
theorem inv_putZ {E ls st hi hr n S C k} (h : a_sem E (o_putZ C k) ls st hi hr n = some S) : ∃ v a st', st = Value.int v :: Value.ref a :: st' ∧ ((a_kd a = C ∧ a < n ∧ 43 ≤ a) ∧ ((1 : Int) = 0 ∨ v = 0 ∨ v = 1)) ∧ S = (ls, st', hI hi a k v, hr, n) := by
  change (match (generalizing := false) st with | Value.int v :: Value.ref a :: st => if (a_kd a = C ∧ a < n ∧ 43 ≤ a) ∧ ((1 : Int) = 0 ∨ v = 0 ∨ v = 1) then some (ls, st, hI hi a k v, hr, n) else none | _ => none) = some S at h
  split at h
  · split at h <;> cases h
    exact ⟨_, _, _, rfl, by assumption, rfl⟩
  · cases h
theorem inv_putR {E ls st hi hr n S C k} (h : a_sem E (o_putR C k) ls st hi hr n = some S) : ∃ v a st', st = Value.ref v :: Value.ref a :: st' ∧ (a_kd a = C ∧ a < n ∧ 43 ≤ a) ∧ S = (ls, st', hi, hR hr a k (some v), n) := by
  change (match (generalizing := false) st with | Value.ref v :: Value.ref a :: st => if a_kd a = C ∧ a < n ∧ 43 ≤ a then some (ls, st, hi, hR hr a k (some v), n) else none | _ => none) = some S at h
  split at h
  · split at h <;> cases h
    exact ⟨_, _, _, rfl, by assumption, rfl⟩
  · cases h
theorem inv_iald {E ls st hi hr n S } (h : a_sem E (o_iald) ls st hi hr n = some S) : ∃ j a st', st = Value.int j :: Value.ref a :: st' ∧ ((a_kd a = 20 ∧ a < n) ∧ ¬ (j < 0 ∨ a_ln E a ≤ j.toNatClampNeg)) ∧ S = (ls, Value.int (rI E hi a j.toNatClampNeg) :: st', hi, hr, n) := by
  change (match (generalizing := false) st with | Value.int j :: Value.ref a :: st => if (a_kd a = 20 ∧ a < n) ∧ ¬ (j < 0 ∨ a_ln E a ≤ j.toNatClampNeg) then some (ls, Value.int (rI E hi a j.toNatClampNeg) :: st, hi, hr, n) else none | _ => none) = some S at h
  split at h
  · split at h <;> cases h
    exact ⟨_, _, _, rfl, by assumption, rfl⟩
  · cases h
theorem inv_bald {E ls st hi hr n S } (h : a_sem E (o_bald) ls st hi hr n = some S) : ∃ j a st', st = Value.int j :: Value.ref a :: st' ∧ (((a_kd a = 21 ∨ a_kd a = 22) ∧ a < n) ∧ ¬ (j < 0 ∨ a_ln E a ≤ j.toNatClampNeg)) ∧ S = (ls, Value.int (rI E hi a j.toNatClampNeg) :: st', hi, hr, n) := by
  change (match (generalizing := false) st with | Value.int j :: Value.ref a :: st => if ((a_kd a = 21 ∨ a_kd a = 22) ∧ a < n) ∧ ¬ (j < 0 ∨ a_ln E a ≤ j.toNatClampNeg) then some (ls, Value.int (rI E hi a j.toNatClampNeg) :: st, hi, hr, n) else none | _ => none) = some S at h
  split at h
  · split at h <;> cases h
    exact ⟨_, _, _, rfl, by assumption, rfl⟩
  · cases h
theorem inv_aald {E ls st hi hr n S } (h : a_sem E (o_aald) ls st hi hr n = some S) : ∃ j a st', st = Value.int j :: Value.ref a :: st' ∧ ((30 ≤ a_kd a ∧ a_kd a ≤ 50 ∧ a < n) ∧ ¬ (j < 0 ∨ a_ln E a ≤ j.toNatClampNeg)) ∧ S = (ls, a_ref (rR hr a j.toNatClampNeg) :: st', hi, hr, n) := by
  change (match (generalizing := false) st with | Value.int j :: Value.ref a :: st => if (30 ≤ a_kd a ∧ a_kd a ≤ 50 ∧ a < n) ∧ ¬ (j < 0 ∨ a_ln E a ≤ j.toNatClampNeg) then some (ls, a_ref (rR hr a j.toNatClampNeg) :: st, hi, hr, n) else none | _ => none) = some S at h
  split at h
  · split at h <;> cases h
    exact ⟨_, _, _, rfl, by assumption, rfl⟩
  · cases h
theorem inv_iast {E ls st hi hr n S } (h : a_sem E (o_iast) ls st hi hr n = some S) : ∃ v j a st', st = Value.int v :: Value.int j :: Value.ref a :: st' ∧ ((a_kd a = 20 ∧ a < n ∧ 43 ≤ a) ∧ ¬ (j < 0 ∨ a_ln E a ≤ j.toNatClampNeg)) ∧ S = (ls, st', hI hi a j.toNatClampNeg v, hr, n) := by
  change (match (generalizing := false) st with | Value.int v :: Value.int j :: Value.ref a :: st => if (a_kd a = 20 ∧ a < n ∧ 43 ≤ a) ∧ ¬ (j < 0 ∨ a_ln E a ≤ j.toNatClampNeg) then some (ls, st, hI hi a j.toNatClampNeg v, hr, n) else none | _ => none) = some S at h
  split at h
  · split at h <;> cases h
    exact ⟨_, _, _, _, rfl, by assumption, rfl⟩
  · cases h
theorem inv_bast {E ls st hi hr n S } (h : a_sem E (o_bast) ls st hi hr n = some S) : ∃ v j a st', st = Value.int v :: Value.int j :: Value.ref a :: st' ∧ (((a_kd a = 21 ∨ a_kd a = 22) ∧ a < n ∧ 43 ≤ a) ∧ ¬ (j < 0 ∨ a_ln E a ≤ j.toNatClampNeg)) ∧ S = (ls, st', hI hi a j.toNatClampNeg (if a_kd a = 21 then a_byte v else a_bool v), hr, n) := by
  change (match (generalizing := false) st with | Value.int v :: Value.int j :: Value.ref a :: st => if ((a_kd a = 21 ∨ a_kd a = 22) ∧ a < n ∧ 43 ≤ a) ∧ ¬ (j < 0 ∨ a_ln E a ≤ j.toNatClampNeg) then some (ls, st, hI hi a j.toNatClampNeg (if a_kd a = 21 then a_byte v else a_bool v), hr, n) else none | _ => none) = some S at h
  split at h
  · split at h <;> cases h
    exact ⟨_, _, _, _, rfl, by assumption, rfl⟩
  · cases h
theorem inv_aast {E ls st hi hr n S } (h : a_sem E (o_aast) ls st hi hr n = some S) : ∃ v j a st', st = Value.ref v :: Value.int j :: Value.ref a :: st' ∧ (((30 ≤ a_kd a ∧ a_kd a ≤ 42) ∧ a < n ∧ 43 ≤ a) ∧ (a_kd v + 30 = a_kd a ∧ v < n) ∧ ¬ (j < 0 ∨ a_ln E a ≤ j.toNatClampNeg)) ∧ S = (ls, st', hi, hR hr a j.toNatClampNeg (some v), n) := by
  change (match (generalizing := false) st with | Value.ref v :: Value.int j :: Value.ref a :: st => if ((30 ≤ a_kd a ∧ a_kd a ≤ 42) ∧ a < n ∧ 43 ≤ a) ∧ (a_kd v + 30 = a_kd a ∧ v < n) ∧ ¬ (j < 0 ∨ a_ln E a ≤ j.toNatClampNeg) then some (ls, st, hi, hR hr a j.toNatClampNeg (some v), n) else none | _ => none) = some S at h
  split at h
  · split at h <;> cases h
    exact ⟨_, _, _, _, rfl, by assumption, rfl⟩
  · cases h
theorem inv_alen {E ls st hi hr n S } (h : a_sem E (o_alen) ls st hi hr n = some S) : ∃ a st', st = Value.ref a :: st' ∧ ((20 ≤ a_kd a ∧ a_kd a ≤ 50) ∧ a < n) ∧ S = (ls, Value.int (nI (a_ln E a)) :: st', hi, hr, n) := by
  change (match (generalizing := false) st with | Value.ref a :: st => if (20 ≤ a_kd a ∧ a_kd a ≤ 50) ∧ a < n then some (ls, Value.int (nI (a_ln E a)) :: st, hi, hr, n) else none | _ => none) = some S at h
  split at h
  · split at h <;> cases h
    exact ⟨_, _, rfl, by assumption, rfl⟩
  · cases h
theorem inv_newa {E ls st hi hr n S k} (h : a_sem E (o_newa k) ls st hi hr n = some S) : ∃ j st', st = Value.int j :: st' ∧ (a_kd n = k ∧ ¬ j < 0 ∧ a_ln E n = j.toNatClampNeg ∧ j.toNatClampNeg ≤ 60000) ∧ S = (ls, Value.ref n :: st', va_up hi n (fun _ => 0), hr, n + 1) := by
  change (match (generalizing := false) st with | Value.int j :: st => if a_kd n = k ∧ ¬ j < 0 ∧ a_ln E n = j.toNatClampNeg ∧ j.toNatClampNeg ≤ 60000 then some (ls, Value.ref n :: st, va_up hi n (fun _ => 0), hr, n + 1) else none | _ => none) = some S at h
  split at h
  · split at h <;> cases h
    exact ⟨_, _, rfl, by assumption, rfl⟩
  · cases h
theorem inv_anew {E ls st hi hr n S k} (h : a_sem E (o_anew k) ls st hi hr n = some S) : ∃ j st', st = Value.int j :: st' ∧ (a_kd n = k ∧ ¬ j < 0 ∧ a_ln E n = j.toNatClampNeg ∧ j.toNatClampNeg ≤ 60000) ∧ S = (ls, Value.ref n :: st', hi, va_up hr n (fun _ => none), n + 1) := by
  change (match (generalizing := false) st with | Value.int j :: st => if a_kd n = k ∧ ¬ j < 0 ∧ a_ln E n = j.toNatClampNeg ∧ j.toNatClampNeg ≤ 60000 then some (ls, Value.ref n :: st, hi, va_up hr n (fun _ => none), n + 1) else none | _ => none) = some S at h
  split at h
  · split at h <;> cases h
    exact ⟨_, _, rfl, by assumption, rfl⟩
  · cases h
theorem inv_mna {E ls st hi hr n S } (h : a_sem E (o_mna) ls st hi hr n = some S) : ∃ k j st', st = Value.int k :: Value.int j :: st' ∧ (a_kd n = 50 ∧ ¬ j < 0 ∧ ¬ k < 0 ∧ a_ln E n = j.toNatClampNeg ∧ j.toNatClampNeg ≤ 60000 ∧ k.toNatClampNeg ≤ 60000 ∧ ∀ i, i < j.toNatClampNeg → a_kd (n + 1 + i) = 20 ∧ a_ln E (n + 1 + i) = k.toNatClampNeg) ∧ S = (ls, Value.ref n :: st', a_zero hi n j.toNatClampNeg, a_rows hr n j.toNatClampNeg, n + 1 + j.toNatClampNeg) := by
  change (match (generalizing := false) st with | Value.int k :: Value.int j :: st => if a_kd n = 50 ∧ ¬ j < 0 ∧ ¬ k < 0 ∧ a_ln E n = j.toNatClampNeg ∧ j.toNatClampNeg ≤ 60000 ∧ k.toNatClampNeg ≤ 60000 ∧ ∀ i, i < j.toNatClampNeg → a_kd (n + 1 + i) = 20 ∧ a_ln E (n + 1 + i) = k.toNatClampNeg then some (ls, Value.ref n :: st, a_zero hi n j.toNatClampNeg, a_rows hr n j.toNatClampNeg, n + 1 + j.toNatClampNeg) else none | _ => none) = some S at h
  split at h
  · split at h <;> cases h
    exact ⟨_, _, _, rfl, by assumption, rfl⟩
  · cases h
theorem inv_cp {E ls st hi hr n S } (h : a_sem E (o_cp) ls st hi hr n = some S) : ∃ c dp d sp a st', st = Value.int c :: Value.int dp :: Value.ref d :: Value.int sp :: Value.ref a :: st' ∧ (((a_kd a = 20 ∨ a_kd a = 21) ∧ a_kd d = a_kd a ∧ a < n ∧ d < n ∧ 43 ≤ a ∧ 43 ≤ d) ∧ (¬ sp < 0 ∧ ¬ dp < 0 ∧ ¬ c < 0) ∧ sp.toNatClampNeg + c.toNatClampNeg ≤ a_ln E a ∧ dp.toNatClampNeg + c.toNatClampNeg ≤ a_ln E d ∧ st'.length ≤ 4) ∧ S = (ls, st', a_cpy E hi a sp.toNatClampNeg d dp.toNatClampNeg c.toNatClampNeg, hr, n) := by
  change (match (generalizing := false) st with | Value.int c :: Value.int dp :: Value.ref d :: Value.int sp :: Value.ref a :: st => if ((a_kd a = 20 ∨ a_kd a = 21) ∧ a_kd d = a_kd a ∧ a < n ∧ d < n ∧ 43 ≤ a ∧ 43 ≤ d) ∧ (¬ sp < 0 ∧ ¬ dp < 0 ∧ ¬ c < 0) ∧ sp.toNatClampNeg + c.toNatClampNeg ≤ a_ln E a ∧ dp.toNatClampNeg + c.toNatClampNeg ≤ a_ln E d ∧ st.length ≤ 4 then some (ls, st, a_cpy E hi a sp.toNatClampNeg d dp.toNatClampNeg c.toNatClampNeg, hr, n) else none | _ => none) = some S at h
  split at h
  · split at h <;> cases h
    exact ⟨_, _, _, _, _, _, rfl, by assumption, rfl⟩
  · cases h
theorem inv_obj {E ls st hi hr n S} (h : a_sem E o_obj ls st hi hr n = some S) : ∃ a st', st = .ref a :: st' ∧ (43 ≤ a ∧ st'.length ≤ 4) ∧ S = (ls, st', hi, hr, n) := by
  change (match (generalizing := false) st with | .ref a :: st => if 43 ≤ a ∧ st.length ≤ 4 then some (ls, st, hi, hr, n) else none | _ => none) = some S at h
  split at h
  · split at h <;> cases h
    exact ⟨_, _, rfl, by assumption, rfl⟩
  · cases h
theorem inv_new {E ls st hi hr n S C} (h : a_sem E (o_new C) ls st hi hr n = some S) : a_kd n = C ∧ S = (ls, .ref n :: st, va_up hi n (fun _ => 0), va_up hr n (fun _ => none), n + 1) := by
  change (if a_kd n = C then some (ls, Value.ref n :: st, va_up hi n (fun _ => 0), va_up hr n (fun _ => none), n + 1) else none) = some S at h
  split at h <;> cases h
  exact ⟨by assumption, rfl⟩
