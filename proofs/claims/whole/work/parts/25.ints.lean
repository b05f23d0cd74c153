/-! Ints as numbers -/
def J (z : Int) : Int32 := Int32.ofInt z
def L (z : Int) : Int64 := Int64.ofInt z
theorem J_add (a b : Int) : J a + J b = J (a + b) := (Int32.ofInt_add a b).symm
theorem J_sub (a b : Int) : J a - J b = J (a - b) := (Int32.ofInt_sub a b).symm
theorem J_mul (a b : Int) : J a * J b = J (a * b) := (Int32.ofInt_mul a b).symm
theorem J_neg (a : Int) : - J a = J (-a) := Int32.neg_ofInt
theorem L_add (a b : Int) : L a + L b = L (a + b) := (Int64.ofInt_add a b).symm
theorem L_sub (a b : Int) : L a - L b = L (a - b) := (Int64.ofInt_sub a b).symm
theorem L_mul (a b : Int) : L a * L b = L (a * b) := (Int64.ofInt_mul a b).symm
theorem J_toInt {a : Int} (h : -2147483648 ≤ a) (h' : a < 2147483648) : (J a).toInt = a := Int32.toInt_ofInt_of_le (by omega) (by omega)
theorem L_toInt {a : Int} (h : -9223372036854775808 ≤ a) (h' : a < 9223372036854775808) : (L a).toInt = a := Int64.toInt_ofInt_of_le (by omega) (by omega)
theorem J_of (x : Int32) : ∃ a : Int, -2147483648 ≤ a ∧ a < 2147483648 ∧ x = J a := ⟨x.toInt, by have := x.le_toInt; omega, by have := x.toInt_lt; omega, (Int32.ofInt_toInt x).symm⟩
theorem J_lt {a b : Int} (h : -2147483648 ≤ a) (h' : a < 2147483648) (k : -2147483648 ≤ b) (k' : b < 2147483648) : (J a < J b) = (a < b) := by
  rw [Int32.lt_iff_toInt_lt, J_toInt h h', J_toInt k k']
theorem J_le {a b : Int} (h : -2147483648 ≤ a) (h' : a < 2147483648) (k : -2147483648 ≤ b) (k' : b < 2147483648) : (J a ≤ J b) = (a ≤ b) := by
  rw [Int32.le_iff_toInt_le, J_toInt h h', J_toInt k k']
theorem J_eq {a b : Int} (h : -2147483648 ≤ a) (h' : a < 2147483648) (k : -2147483648 ≤ b) (k' : b < 2147483648) : (J a = J b) = (a = b) := by
  rw [← Int32.toInt_inj, J_toInt h h', J_toInt k k']
theorem L_cmp_lt {a b : Int} (h : -9223372036854775808 ≤ a) (h' : a < 9223372036854775808) (k : -9223372036854775808 ≤ b) (k' : b < 9223372036854775808) : (L a < L b) = (a < b) := by
  rw [Int64.lt_iff_toInt_lt, L_toInt h h', L_toInt k k']
theorem L_eq {a b : Int} (h : -9223372036854775808 ≤ a) (h' : a < 9223372036854775808) (k : -9223372036854775808 ≤ b) (k' : b < 9223372036854775808) : (L a = L b) = (a = b) := by
  rw [← Int64.toInt_inj, L_toInt h h', L_toInt k k']
theorem J_clamp {a : Int} (h : -2147483648 ≤ a) (h' : a < 2147483648) : (J a).toNatClampNeg = a.toNat := Int32.toNatClampNeg_ofInt_of_le (by omega) (by omega)
theorem J_in {a : Int} {N : Nat} (h : 0 ≤ a) (h' : a < N) (hN : N ≤ 60000) : vp_in (J a) N = True := by
  have e : (J a).toNatClampNeg = a.toNat := J_clamp (by omega) (by omega)
  refine eq_true fun q => ?_
  rcases q with q | q
  · rw [show (0 : Int32) = J 0 from rfl, J_lt (by omega) (by omega) (by decide) (by decide)] at q
    omega
  · rw [e] at q
    omega
theorem J_l {a : Int} (h : -2147483648 ≤ a) (h' : a < 2147483648) : (J a).toInt64 = L a := Int64.toInt_inj.mp (by rw [Int32.toInt_toInt64, J_toInt h h', L_toInt (by omega) (by omega)])
theorem L_j (a : Int) : (L a).toInt32 = J a := Int64.toInt32_ofInt
theorem J_div {a b : Int} (h : -2147483648 < a) (h' : a < 2147483648) (k : -2147483648 ≤ b) (k' : b < 2147483648) : J a / J b = J (a.tdiv b) := by
  rw [← Int32.toInt_inj]
  have hm : J a ≠ Int32.minValue := fun e => by
    have := congrArg Int32.toInt e
    rw [J_toInt (by omega) h'] at this
    have h2 : Int32.minValue.toInt = -2147483648 := by decide
    omega
  rw [Int32.toInt_div_of_ne_left _ _ hm, J_toInt (by omega) h', J_toInt k k']
  have h1 : a.tdiv b ≤ 2147483647 ∧ -2147483647 ≤ a.tdiv b := by
    have h2 := Int.natAbs_tdiv_le_natAbs a b
    omega
  rw [J_toInt (by omega) (by omega)]
theorem J_divp {a b : Int} (h : 0 ≤ a) (h' : a < 2147483648) (k : 0 < b) (k' : b < 2147483648) : J a / J b = J (a / b) := by
  rw [J_div (by omega) h' (by omega) k', Int.tdiv_eq_ediv_of_nonneg h]
theorem J_remp {a b : Int} (h : 0 ≤ a) (h' : a < 2147483648) (k : 0 < b) (k' : b < 2147483648) : a_rem (J a) (J b) = J (a % b) := by
  unfold a_rem
  rw [J_divp h h' k k', J_mul, J_sub, Int.emod_def, Int.mul_comm]
theorem J_lit0 : (0 : Int32) = J 0 := rfl
/-- a truth as an int -/
def Bz (c : Bool) : Int32 := bif c then J 1 else J 0
theorem Bz_t : Bz true = J 1 := rfl
theorem Bz_f : Bz false = J 0 := rfl
theorem Bz_0 (c : Bool) : (Bz c = J 0) = (c = false) := by cases c <;> decide
theorem Bz_n0 (c : Bool) : (¬ Bz c = J 0) = (c = true) := by cases c <;> decide
theorem Bz_01 (c : Bool) : (Bz c = 0 ∨ Bz c = 1) = True := by cases c <;> decide
/-- rows of ints by numbers -/
def gA (h : AHi) (a : Nat) (i : Int) : Int32 := h a i.toNat
def sA (h : AHi) (a : Nat) (i : Int) (v : Int32) : AHi := hI h a i.toNat v
theorem hI_o {h : AHi} {a k b : Nat} {v : Int32} (e : b ≠ a) : hI h a k v b = h b := va_up_ne _ _ e
theorem hI_s {h : AHi} {a k : Nat} {v : Int32} : hI h a k v a k = v := by unfold hI; rw [va_up_self, va_up_self]
theorem hI_k {h : AHi} {a k j : Nat} {v : Int32} (e : j ≠ k) : hI h a k v a j = h a j := by unfold hI; rw [va_up_self, va_up_ne _ _ e]
theorem sA_o {h : AHi} {a b : Nat} {i : Int} {v : Int32} (e : b ≠ a) : sA h a i v b = h b := hI_o e
theorem gA_o {h : AHi} {a b k : Nat} {i : Int} {v : Int32} (e : b ≠ a) : gA (hI h a k v) b i = gA h b i := by unfold gA; rw [hI_o e]
theorem gs_o {h : AHi} {a b : Nat} {i j : Int} {v : Int32} (e : b ≠ a) : gA (sA h a j v) b i = gA h b i := gA_o e
theorem gs_s {h : AHi} {a : Nat} {i : Int} {v : Int32} : gA (sA h a i v) a i = v := hI_s
theorem gs_k {h : AHi} {a : Nat} {i j : Int} {v : Int32} (hi : 0 ≤ i) (hj : 0 ≤ j) (e : j ≠ i) : gA (sA h a i v) a j = gA h a j := hI_k (by omega)
theorem gs_if {h : AHi} {a : Nat} {i j : Int} {v : Int32} (hi : 0 ≤ i) (hj : 0 ≤ j) : gA (sA h a i v) a j = if j = i then v else gA h a j := by
  by_cases e : j = i
  · rw [if_pos e, e, gs_s]
  · rw [if_neg e, gs_k hi hj e]
section TJ
variable {E : AEn} {m : Nat} {is : List AOp} {ls st : List Value} {hi : AHi} {hr : AHr} {n : Nat} {Q : ARs → Prop}
theorem J_iald (a : Nat) (j : Int) (h : 0 ≤ j) (h' : j < a_ln E a) (hN : a_ln E a ≤ 60000) (h43 : 43 ≤ a) : Tm E m (o_iald :: is) ls (.int (J j) :: .ref a :: st) hi hr n Q ↔ (a_kd a = 20 ∧ a < n) ∧ Tm E m is ls (.int (gA hi a j) :: st) hi hr n Q := by
  rw [T_iald, J_in h h' hN, J_clamp (by omega) (by omega), rI_run h43]
  exact ⟨fun q => ⟨q.1.1, q.2⟩, fun q => ⟨⟨q.1, trivial⟩, q.2⟩⟩
theorem J_bald (a : Nat) (j : Int) (h : 0 ≤ j) (h' : j < a_ln E a) (hN : a_ln E a ≤ 60000) (h43 : 43 ≤ a) : Tm E m (o_bald :: is) ls (.int (J j) :: .ref a :: st) hi hr n Q ↔ ((a_kd a = 21 ∨ a_kd a = 22) ∧ a < n) ∧ Tm E m is ls (.int (gA hi a j) :: st) hi hr n Q := by
  rw [T_bald, J_in h h' hN, J_clamp (by omega) (by omega), rI_run h43]
  exact ⟨fun q => ⟨q.1.1, q.2⟩, fun q => ⟨⟨q.1, trivial⟩, q.2⟩⟩
theorem J_aald (a : Nat) (j : Int) (h : 0 ≤ j) (h' : j < a_ln E a) (hN : a_ln E a ≤ 60000) (h43 : 43 ≤ a) : Tm E m (o_aald :: is) ls (.int (J j) :: .ref a :: st) hi hr n Q ↔ (30 ≤ a_kd a ∧ a_kd a ≤ 50 ∧ a < n) ∧ Tm E m is ls (a_ref (hr a j.toNat) :: st) hi hr n Q := by
  rw [T_aald, J_in h h' hN, J_clamp (by omega) (by omega), rR_run h43]
  exact ⟨fun q => ⟨q.1.1, q.2⟩, fun q => ⟨⟨q.1, trivial⟩, q.2⟩⟩
theorem J_iast (a : Nat) (j : Int) (v : Int32) (h : 0 ≤ j) (h' : j < a_ln E a) (hN : a_ln E a ≤ 60000) : Tm E m (o_iast :: is) ls (.int v :: .int (J j) :: .ref a :: st) hi hr n Q ↔ (a_kd a = 20 ∧ a < n ∧ 43 ≤ a) ∧ Tm E m is ls st (sA hi a j v) hr n Q := by
  rw [T_iast, J_in h h' hN, J_clamp (by omega) (by omega)]
  exact ⟨fun q => ⟨q.1.1, q.2⟩, fun q => ⟨⟨q.1, trivial⟩, q.2⟩⟩
theorem J_bast (a : Nat) (j : Int) (v : Int32) (h : 0 ≤ j) (h' : j < a_ln E a) (hN : a_ln E a ≤ 60000) : Tm E m (o_bast :: is) ls (.int v :: .int (J j) :: .ref a :: st) hi hr n Q ↔ ((a_kd a = 21 ∨ a_kd a = 22) ∧ a < n ∧ 43 ≤ a) ∧ Tm E m is ls st (sA hi a j (if a_kd a = 21 then a_byte v else a_bool v)) hr n Q := by
  rw [T_bast, J_in h h' hN, J_clamp (by omega) (by omega)]
  exact ⟨fun q => ⟨q.1.1, q.2⟩, fun q => ⟨⟨q.1, trivial⟩, q.2⟩⟩
theorem J_aast (a v : Nat) (j : Int) (h : 0 ≤ j) (h' : j < a_ln E a) (hN : a_ln E a ≤ 60000) : Tm E m (o_aast :: is) ls (.ref v :: .int (J j) :: .ref a :: st) hi hr n Q ↔ (((30 ≤ a_kd a ∧ a_kd a ≤ 42) ∧ a < n ∧ 43 ≤ a) ∧ (a_kd v + 30 = a_kd a ∧ v < n)) ∧ Tm E m is ls st hi (hR hr a j.toNat (some v)) n Q := by
  rw [T_aast, J_in h h' hN, J_clamp (by omega) (by omega)]
  exact ⟨fun q => ⟨⟨q.1.1, q.1.2.1⟩, q.2⟩, fun q => ⟨⟨q.1.1, q.1.2, trivial⟩, q.2⟩⟩
theorem J_alen (a : Nat) : Tm E m (o_alen :: is) ls (.ref a :: st) hi hr n Q ↔ ((20 ≤ a_kd a ∧ a_kd a ≤ 50) ∧ a < n) ∧ Tm E m is ls (.int (J (a_ln E a)) :: st) hi hr n Q := by
  have e : nI (a_ln E a) = J (a_ln E a) := Int32.ofInt_eq_ofNat.symm
  rw [T_alen, e]
def rX (E : AEn) (hi : AHi) (a : Nat) (x : Int32) : Int32 := rI E hi a x.toNatClampNeg
def rY (hr : AHr) (a : Nat) (x : Int32) : Option Nat := rR hr a x.toNatClampNeg
theorem X_iald (a : Nat) (j : Int32) : Tm E m (o_iald :: is) ls (.int j :: .ref a :: st) hi hr n Q ↔ ((a_kd a = 20 ∧ a < n) ∧ vp_in j (a_ln E a)) ∧ Tm E m is ls (.int (rX E hi a j) :: st) hi hr n Q := T_iald a j
theorem X_bald (a : Nat) (j : Int32) : Tm E m (o_bald :: is) ls (.int j :: .ref a :: st) hi hr n Q ↔ (((a_kd a = 21 ∨ a_kd a = 22) ∧ a < n) ∧ vp_in j (a_ln E a)) ∧ Tm E m is ls (.int (rX E hi a j) :: st) hi hr n Q := T_bald a j
theorem X_aald (a : Nat) (j : Int32) : Tm E m (o_aald :: is) ls (.int j :: .ref a :: st) hi hr n Q ↔ ((30 ≤ a_kd a ∧ a_kd a ≤ 50 ∧ a < n) ∧ vp_in j (a_ln E a)) ∧ Tm E m is ls (a_ref (rY hr a j) :: st) hi hr n Q := T_aald a j
theorem rI_g {a : Nat} {j : Int} (h43 : 43 ≤ a) (h : -2147483648 ≤ j) (h' : j < 2147483648) : rX E hi a (J j) = gA hi a j := by
  unfold rX; rw [rI_run h43, J_clamp h h']; rfl
theorem rR_g {a : Nat} {j : Int} (h43 : 43 ≤ a) (h : -2147483648 ≤ j) (h' : j < 2147483648) : rY hr a (J j) = hr a j.toNat := by
  unfold rY; rw [rR_run h43, J_clamp h h']
theorem sA_f {a : Nat} {j : Int} {v : Int32} (h : -2147483648 ≤ j) (h' : j < 2147483648) : hI hi a (J j).toNatClampNeg v = sA hi a j v := by
  rw [J_clamp h h']; rfl
theorem hR_f {a : Nat} {j : Int} {v : Option Nat} (h : -2147483648 ≤ j) (h' : j < 2147483648) : hR hr a (J j).toNatClampNeg v = hR hr a j.toNat v := by
  rw [J_clamp h h']
theorem J_ifeq (L : Nat) (x : Int32) : Tm E m (o_if 0 L :: is) ls (.int x :: st) hi hr n Q ↔ if x = J 0 then Tm E m (a_bl m L) ls st hi hr n Q else Tm E m is ls st hi hr n Q := T_ifeq L x
theorem J_ifne (L : Nat) (x : Int32) : Tm E m (o_if 1 L :: is) ls (.int x :: st) hi hr n Q ↔ if x = J 0 then Tm E m is ls st hi hr n Q else Tm E m (a_bl m L) ls st hi hr n Q := by
  rw [T_ifne]
  by_cases h : x = 0
  · rw [if_neg (fun q => q h), if_pos (show x = J 0 from h)]
  · rw [if_pos h, if_neg (show ¬ x = J 0 from h)]
theorem J_icne (L : Nat) (x y : Int32) : Tm E m (o_ic 1 L :: is) ls (.int y :: .int x :: st) hi hr n Q ↔ if x = y then Tm E m is ls st hi hr n Q else Tm E m (a_bl m L) ls st hi hr n Q := by
  rw [T_icne]
  by_cases h : x = y
  · rw [if_neg (fun q => q h), if_pos h]
  · rw [if_pos h, if_neg h]
theorem J_iflt (L : Nat) (x : Int32) : Tm E m (o_if 2 L :: is) ls (.int x :: st) hi hr n Q ↔ if x < J 0 then Tm E m (a_bl m L) ls st hi hr n Q else Tm E m is ls st hi hr n Q := T_iflt L x
theorem J_ifge (L : Nat) (x : Int32) : Tm E m (o_if 3 L :: is) ls (.int x :: st) hi hr n Q ↔ if J 0 ≤ x then Tm E m (a_bl m L) ls st hi hr n Q else Tm E m is ls st hi hr n Q := T_ifge L x
theorem J_ifgt (L : Nat) (x : Int32) : Tm E m (o_if 4 L :: is) ls (.int x :: st) hi hr n Q ↔ if J 0 < x then Tm E m (a_bl m L) ls st hi hr n Q else Tm E m is ls st hi hr n Q := T_ifgt L x
theorem J_ifle (L : Nat) (x : Int32) : Tm E m (o_if 5 L :: is) ls (.int x :: st) hi hr n Q ↔ if x ≤ J 0 then Tm E m (a_bl m L) ls st hi hr n Q else Tm E m is ls st hi hr n Q := T_ifle L x
theorem J_iinc (i : Nat) (v : Int32) : Tm E m (o_iinc i v :: is) ls st hi hr n Q ↔ lI ls[i]? (fun x => Tm E m is (a_st1 ls i (.int (x + v))) st hi hr n Q) := T_iinc i v
theorem J_retI (x : Int32) : (a_rv (some .int) 1 [.int x] = some (some (.int x))) = True := eq_true rfl
end TJ
