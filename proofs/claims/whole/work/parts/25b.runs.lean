/-! Calls, switches, references; all rows as one -/
section TQ
variable {E : AEn} {m m' : Nat} {is : List AOp} {ls st : List Value} {hi : AHi} {hr : AHr} {n : Nat} {Q : ARs → Prop}
theorem T_cN (as : List Value) (ha : a_ar m' = as.length) : Tm E m (o_call m' :: is) ls (as.reverse ++ st) hi hr n Q ↔ (st.length ≤ 4 ∧ a_cok m' n as = true) ∧ Sp E m' as hi hr n (fun r => Tm E m is ls (r.1.toList ++ st) r.2.1 r.2.2.1 r.2.2.2 Q) := by
  have h1 : (as.reverse ++ st).take as.length = as.reverse := List.take_left' (List.length_reverse)
  have h2 : (as.reverse ++ st).drop as.length = st := List.drop_left' (List.length_reverse)
  rw [T_call, ha, h1, h2, List.reverse_reverse]
  refine ⟨fun h => ⟨h.1.2, h.2⟩, fun h => ⟨⟨?_, h.1⟩, h.2⟩⟩
  rw [List.length_append, List.length_reverse]
  omega
theorem T_cS (as : List Value) (ha : a_ar m' = as.length) (hk : (Nat.beq (a_rc m') 0 && Nat.ble (a_args as).length (a_ml m') && as.all (fun v => !a_isM v)) = true) : Tm E m (o_call m' :: is) ls (as.reverse ++ st) hi hr n Q ↔ st.length ≤ 4 ∧ Sp E m' as hi hr n (fun r => Tm E m is ls (r.1.toList ++ st) r.2.1 r.2.2.1 r.2.2.2 Q) := by
  rw [T_cN as ha]
  have h : a_cok m' n as = true := by
    rw [Bool.and_eq_true, Bool.and_eq_true] at hk
    unfold a_cok
    rw [Nat.eq_of_beq_eq_true hk.1.1, hk.1.2, hk.2]
    rfl
  exact ⟨fun q => ⟨q.1.1, q.2⟩, fun q => ⟨⟨q.1, h⟩, q.2⟩⟩
theorem T_cI {x0 C : Nat} (as : List Value) (ha : a_ar m' = as.length + 1) (hc : a_rc m' = C + 1) (hl : Nat.ble (a_args (.ref x0 :: as)).length (a_ml m') = true) (hm : as.all (fun v => !a_isM v) = true) : Tm E m (o_call m' :: is) ls (as.reverse ++ .ref x0 :: st) hi hr n Q ↔ (a_kd x0 = C ∧ x0 < n ∧ st.length ≤ 4) ∧ Sp E m' (.ref x0 :: as) hi hr n (fun r => Tm E m is ls (r.1.toList ++ st) r.2.1 r.2.2.1 r.2.2.2 Q) := by
  have h := T_cN (E := E) (m := m) (m' := m') (is := is) (ls := ls) (st := st) (hi := hi) (hr := hr) (n := n) (Q := Q) (.ref x0 :: as) ha
  rw [List.reverse_cons, List.append_assoc] at h
  refine h.trans ⟨fun q => ⟨?_, q.2⟩, fun q => ⟨⟨q.1.2.2, ?_⟩, q.2⟩⟩
  · have h1 := q.1.2
    unfold a_cok at h1
    rw [hc, Bool.and_eq_true, Bool.and_eq_true] at h1
    have h2 : (Nat.beq (a_kd x0) C && Nat.blt x0 n) = true := h1.1.1
    rw [Bool.and_eq_true] at h2
    exact ⟨Nat.eq_of_beq_eq_true h2.1, Nat.le_of_ble_eq_true h2.2, q.1.1⟩
  · unfold a_cok
    rw [hc, hl]
    have h2 : (Nat.beq (a_kd x0) C && Nat.blt x0 n) = true := by
      rw [Bool.and_eq_true]
      exact ⟨by rw [q.1.1]; exact Nat.beq_refl C, Nat.ble_eq_true_of_le q.1.2.1⟩
    show (((Nat.beq (a_kd x0) C && Nat.blt x0 n) && true) && (true && as.all (fun v => !a_isM v))) = true
    rw [h2, hm]
    rfl
theorem T_sw (lo : Int) (d : Nat) (ts : List Nat) (x : Int32) : Tm E m (o_sw lo d ts :: is) ls (.int x :: st) hi hr n Q ↔ Tm E m (a_bl m (a_sw lo d ts x)) ls st hi hr n Q := T_step fun f => rfl
theorem T_nnR (L x : Nat) : Tm E m (o_nn L :: is) ls (.ref x :: st) hi hr n Q ↔ 43 ≤ x ∧ Tm E m (a_bl m L) ls st hi hr n Q := by
  by_cases h : 43 ≤ x
  · refine Iff.trans (T_step (is' := a_bl m L) (ls' := ls) (st' := st) (hi' := hi) (hr' := hr) (n' := n) fun f => ?_) ⟨fun q => ⟨h, q⟩, fun q => q.2⟩
    change (match (if 43 ≤ x then some (true, st) else none) with | some (b, st') => a_ex E f m (bif b then a_bl m L else is) ls st' hi hr n | none => none) = _
    rw [if_pos h]
    rfl
  · refine Iff.trans (T_no fun f => ?_) ⟨fun q => q.elim, fun q => h q.1⟩
    change (match (if 43 ≤ x then some (true, st) else none) with | some (b, st') => a_ex E f m (bif b then a_bl m L else is) ls st' hi hr n | none => none) = _
    rw [if_neg h]
theorem T_nnN (L : Nat) : Tm E m (o_nn L :: is) ls (.null :: st) hi hr n Q ↔ Tm E m is ls st hi hr n Q := T_step fun f => rfl
theorem T_ae (L x y : Nat) : Tm E m (o_ae L :: is) ls (.ref y :: .ref x :: st) hi hr n Q ↔ ((43 ≤ x ∧ 43 ≤ y) ∨ ((4 ≤ x ∧ x < 12) ∧ (4 ≤ y ∧ y < 12))) ∧ (if x = y then Tm E m (a_bl m L) ls st hi hr n Q else Tm E m is ls st hi hr n Q) := by
  by_cases h : (43 ≤ x ∧ 43 ≤ y) ∨ ((4 ≤ x ∧ x < 12) ∧ (4 ≤ y ∧ y < 12))
  · refine Iff.trans (T_br (c := x = y) (L := L) (st' := st) fun f => ?_) ⟨fun q => ⟨h, q⟩, fun q => q.2⟩
    change (match (if (43 ≤ x ∧ 43 ≤ y) ∨ ((4 ≤ x ∧ x < 12) ∧ (4 ≤ y ∧ y < 12)) then some (decide (x = y), st) else none) with | some (b, st') => a_ex E f m (bif b then a_bl m L else is) ls st' hi hr n | none => none) = _
    rw [if_pos h]
  · refine Iff.trans (T_no fun f => ?_) ⟨fun q => q.elim, fun q => h q.1⟩
    change (match (if (43 ≤ x ∧ 43 ≤ y) ∨ ((4 ≤ x ∧ x < 12) ∧ (4 ≤ y ∧ y < 12)) then some (decide (x = y), st) else none) with | some (b, st') => a_ex E f m (bif b then a_bl m L else is) ls st' hi hr n | none => none) = _
    rw [if_neg h]
theorem T_an (L x y : Nat) : Tm E m (o_an L :: is) ls (.ref y :: .ref x :: st) hi hr n Q ↔ ((43 ≤ x ∧ 43 ≤ y) ∨ ((4 ≤ x ∧ x < 12) ∧ (4 ≤ y ∧ y < 12))) ∧ (if x = y then Tm E m is ls st hi hr n Q else Tm E m (a_bl m L) ls st hi hr n Q) := by
  have e : (if x = y then Tm E m is ls st hi hr n Q else Tm E m (a_bl m L) ls st hi hr n Q) = (if ¬ x = y then Tm E m (a_bl m L) ls st hi hr n Q else Tm E m is ls st hi hr n Q) := by
    by_cases h : x = y
    · rw [if_pos h, if_neg (fun q => q h)]
    · rw [if_neg h, if_pos h]
  rw [e]
  by_cases h : (43 ≤ x ∧ 43 ≤ y) ∨ ((4 ≤ x ∧ x < 12) ∧ (4 ≤ y ∧ y < 12))
  · refine Iff.trans (T_br (c := ¬ x = y) (L := L) (st' := st) fun f => ?_) ⟨fun q => ⟨h, q⟩, fun q => q.2⟩
    change (match (if (43 ≤ x ∧ 43 ≤ y) ∨ ((4 ≤ x ∧ x < 12) ∧ (4 ≤ y ∧ y < 12)) then some (decide (¬ x = y), st) else none) with | some (b, st') => a_ex E f m (bif b then a_bl m L else is) ls st' hi hr n | none => none) = _
    rw [if_pos h]
  · refine Iff.trans (T_no fun f => ?_) ⟨fun q => q.elim, fun q => h q.1⟩
    change (match (if (43 ≤ x ∧ 43 ≤ y) ∨ ((4 ≤ x ∧ x < 12) ∧ (4 ≤ y ∧ y < 12)) then some (decide (¬ x = y), st) else none) with | some (b, st') => a_ex E f m (bif b then a_bl m L else is) ls st' hi hr n | none => none) = _
    rw [if_neg h]
/-- locals that are no long -/
def nl (v : Value) : Prop := ∀ x, v ≠ .long x
theorem nl_i (x : Int32) : nl (.int x) := fun _ h => by cases h
theorem nl_r (x : Nat) : nl (.ref x) := fun _ h => by cases h
theorem nl_m : nl a_mk := fun _ h => by cases h
theorem st1_1v {v a w : Value} {l : List Value} (h : nl v) : a_st1 (v :: a :: l) 1 w = v :: w :: l := by
  cases v <;> first | rfl | exact absurd rfl (h _)
theorem st2_0 (v a b : Value) (l : List Value) : a_st2 (a :: b :: l) 0 v = v :: a_mk :: l := rfl
theorem st2_1 {v a b c : Value} {l : List Value} (h : nl a) : a_st2 (a :: b :: c :: l) 1 v = a :: v :: a_mk :: l := by
  unfold a_st2
  rw [st1_1v h]
  rfl
theorem st2_1m (v b c : Value) (l : List Value) : a_st2 (a_mk :: b :: c :: l) 1 v = a_mk :: v :: a_mk :: l := rfl
theorem st2_1i (v b c : Value) (x : Int32) (l : List Value) : a_st2 (.int x :: b :: c :: l) 1 v = .int x :: v :: a_mk :: l := rfl
theorem st2_1r (v b c : Value) (x : Nat) (l : List Value) : a_st2 (.ref x :: b :: c :: l) 1 v = .ref x :: v :: a_mk :: l := rfl
theorem st2_s (a b v : Value) (l : List Value) (i : Nat) : a_st2 (a :: b :: l) (i + 2) v = a :: a_st2 (b :: l) (i + 1) v := by
  unfold a_st2
  rw [st1_s]
  rfl
theorem rv_i (x : Int32) : a_rv (some .int) 1 [.int x] = some (some (.int x)) := rfl
theorem rv_z (c : Bool) : a_rv (some .boolean) 1 [.int (Bz c)] = some (some (.int (Bz c))) := by cases c <;> rfl
theorem rv_z1 : a_rv (some .boolean) 1 [.int (J 1)] = some (some (.int (J 1))) := rfl
theorem rv_z0 : a_rv (some .boolean) 1 [.int (J 0)] = some (some (.int (J 0))) := rfl
theorem rv_v : a_rv none 0 [] = some none := rfl
theorem rv_l (x : Int64) : a_rv (some .long) 2 [.long x] = some (some (.long x)) := rfl
theorem rv_o (q : String) (x : Nat) : a_rv (some (.object q)) 3 [.ref x] = some (some (.ref x)) := rfl
theorem rv_a (q : FieldType) (x : Nat) : a_rv (some (.array q)) 3 [.ref x] = some (some (.ref x)) := rfl
theorem ap_n {α : Type} (l : List α) : [] ++ l = l := rfl
theorem ap_c {α : Type} (a : α) (l r : List α) : (a :: l) ++ r = a :: (l ++ r) := rfl
theorem ln_n {α : Type} : ([] : List α).length = 0 := rfl
theorem ln_c {α : Type} (a : α) (l : List α) : (a :: l).length = l.length + 1 := rfl
end TQ
theorem TJ : (type_of% @T_I) ∧ (type_of% @T_L) ∧ (type_of% @T_il) ∧ (type_of% @T_ll) ∧ (type_of% @T_al) ∧ (type_of% @T_is) ∧ (type_of% @T_lst) ∧ (type_of% @T_as) ∧ (type_of% @T_iinc) ∧ (type_of% @T_add) ∧ (type_of% @T_sub) ∧ (type_of% @T_mul) ∧ (type_of% @T_and) ∧ (type_of% @T_or) ∧ (type_of% @T_xor) ∧ (type_of% @T_shl) ∧ (type_of% @T_shr) ∧ (type_of% @T_ushr) ∧ (type_of% @T_div) ∧ (type_of% @T_rem) ∧ (type_of% @T_addL) ∧ (type_of% @T_subL) ∧ (type_of% @T_mulL) ∧ (type_of% @T_lcmp) ∧ (type_of% @T_xorL) ∧ (type_of% @T_divL) ∧ (type_of% @T_remL) ∧ (type_of% @T_neg) ∧ (type_of% @T_i2l) ∧ (type_of% @T_i2b) ∧ (type_of% @T_i2c) ∧ (type_of% @T_l2i) ∧ (type_of% @T_dupI) ∧ (type_of% @T_dupR) ∧ (type_of% @T_popI) ∧ (type_of% @T_dup2) ∧ (type_of% @T_getI) ∧ (type_of% @T_getR) ∧ (type_of% @T_putI) ∧ (type_of% @T_putZ) ∧ (type_of% @T_putR) ∧ (type_of% @T_cR) ∧ (type_of% @X_iald) ∧ (type_of% @X_bald) ∧ (type_of% @X_aald) ∧ (type_of% @T_iast) ∧ (type_of% @T_bast) ∧ (type_of% @T_aast) ∧ (type_of% @J_alen) ∧ (type_of% @T_obj) ∧ (type_of% @T_goto) ∧ (type_of% @T_ft) ∧ (type_of% @J_ifeq) ∧ (type_of% @T_iceq) ∧ (type_of% @J_ifne) ∧ (type_of% @J_icne) ∧ (type_of% @J_iflt) ∧ (type_of% @T_iclt) ∧ (type_of% @J_ifge) ∧ (type_of% @T_icge) ∧ (type_of% @J_ifgt) ∧ (type_of% @T_icgt) ∧ (type_of% @J_ifle) ∧ (type_of% @T_icle) ∧ (type_of% @lI_i) ∧ (type_of% @lL_l) ∧ (type_of% @lR_r) ∧ (type_of% @lR_n) ∧ (type_of% @T_sw) ∧ (type_of% @T_nnR) ∧ (type_of% @T_nnN) ∧ (type_of% @T_ae) ∧ (type_of% @T_an) ∧ (type_of% @T_ret) :=
  ⟨@T_I, @T_L, @T_il, @T_ll, @T_al, @T_is, @T_lst, @T_as, @T_iinc, @T_add, @T_sub, @T_mul, @T_and, @T_or, @T_xor, @T_shl, @T_shr, @T_ushr, @T_div, @T_rem, @T_addL, @T_subL, @T_mulL, @T_lcmp, @T_xorL, @T_divL, @T_remL, @T_neg, @T_i2l, @T_i2b, @T_i2c, @T_l2i, @T_dupI, @T_dupR, @T_popI, @T_dup2, @T_getI, @T_getR, @T_putI, @T_putZ, @T_putR, @T_cR, @X_iald, @X_bald, @X_aald, @T_iast, @T_bast, @T_aast, @J_alen, @T_obj, @T_goto, @T_ft, @J_ifeq, @T_iceq, @J_ifne, @J_icne, @J_iflt, @T_iclt, @J_ifge, @T_icge, @J_ifgt, @T_icgt, @J_ifle, @T_icle, @lI_i, @lL_l, @lR_r, @lR_n, @T_sw, @T_nnR, @T_nnN, @T_ae, @T_an, @T_ret⟩
theorem J_lt1 {a b : Int} (h : (-2147483648 ≤ a ∧ a < 2147483648) ∧ -2147483648 ≤ b ∧ b < 2147483648) : (J a < J b) = (a < b) := J_lt h.1.1 h.1.2 h.2.1 h.2.2
theorem J_le1 {a b : Int} (h : (-2147483648 ≤ a ∧ a < 2147483648) ∧ -2147483648 ≤ b ∧ b < 2147483648) : (J a ≤ J b) = (a ≤ b) := J_le h.1.1 h.1.2 h.2.1 h.2.2
theorem J_eq1 {a b : Int} (h : (-2147483648 ≤ a ∧ a < 2147483648) ∧ -2147483648 ≤ b ∧ b < 2147483648) : (J a = J b) = (a = b) := J_eq h.1.1 h.1.2 h.2.1 h.2.2
theorem J_in1 {a : Int} {N : Nat} (h : 0 ≤ a ∧ a < N ∧ N ≤ 60000) : vp_in (J a) N = True := J_in h.1 h.2.1 h.2.2
theorem rI_g1 {E : AEn} {hi : AHi} {a : Nat} {j : Int} (h : 43 ≤ a ∧ -2147483648 ≤ j ∧ j < 2147483648) : rX E hi a (J j) = gA hi a j := rI_g h.1 h.2.1 h.2.2
theorem rR_g1 {hr : AHr} {a : Nat} {j : Int} (h : 43 ≤ a ∧ -2147483648 ≤ j ∧ j < 2147483648) : rY hr a (J j) = hr a j.toNat := rR_g h.1 h.2.1 h.2.2
theorem sA_f1 {hi : AHi} {a : Nat} {j : Int} {v : Int32} (h : -2147483648 ≤ j ∧ j < 2147483648) : hI hi a (J j).toNatClampNeg v = sA hi a j v := sA_f h.1 h.2
theorem hR_f1 {hr : AHr} {a : Nat} {j : Int} {v : Option Nat} (h : -2147483648 ≤ j ∧ j < 2147483648) : hR hr a (J j).toNatClampNeg v = hR hr a j.toNat v := hR_f h.1 h.2
/-- lists, results, numbers -/
theorem TK : (type_of% @ls_0) ∧ (type_of% @ls_s) ∧ (type_of% @st1_0) ∧ (type_of% @st1_1) ∧ (type_of% @st1_1r) ∧ (type_of% @st1_1m) ∧ (type_of% @st1_s) ∧ (type_of% @aref_s) ∧ (type_of% @opt_tl) ∧ (type_of% @opt_tn) ∧ (type_of% @rI_run) ∧ (type_of% @rR_run) ∧ (type_of% @st2_0) ∧ (type_of% @st2_1m) ∧ (type_of% @st2_1i) ∧ (type_of% @st2_1r) ∧ (type_of% @st2_s) ∧ (type_of% @rv_i) ∧ (type_of% @rv_z) ∧ (type_of% @rv_z1) ∧ (type_of% @rv_z0) ∧ (type_of% @rv_v) ∧ (type_of% @rv_l) ∧ (type_of% @rv_o) ∧ (type_of% @rv_a) ∧ (type_of% @ap_n) ∧ (type_of% @ap_c) ∧ (type_of% @ln_n) ∧ (type_of% @ln_c) ∧ (type_of% @J_add) ∧ (type_of% @J_sub) ∧ (type_of% @J_mul) ∧ (type_of% @J_neg) ∧ (type_of% @L_add) ∧ (type_of% @L_sub) ∧ (type_of% @L_mul) ∧ (type_of% @L_j) ∧ (type_of% @J_lt1) ∧ (type_of% @J_le1) ∧ (type_of% @J_eq1) ∧ (type_of% @Bz_0) ∧ (type_of% @rI_g1) ∧ (type_of% @rR_g1) ∧ (type_of% @sA_f1) ∧ (type_of% @hR_f1) ∧ (type_of% @J_in1) :=
  ⟨@ls_0, @ls_s, @st1_0, @st1_1, @st1_1r, @st1_1m, @st1_s, @aref_s, @opt_tl, @opt_tn, @rI_run, @rR_run, @st2_0, @st2_1m, @st2_1i, @st2_1r, @st2_s, @rv_i, @rv_z, @rv_z1, @rv_z0, @rv_v, @rv_l, @rv_o, @rv_a, @ap_n, @ap_c, @ln_n, @ln_c, @J_add, @J_sub, @J_mul, @J_neg, @L_add, @L_sub, @L_mul, @L_j, @J_lt1, @J_le1, @J_eq1, @Bz_0, @rI_g1, @rR_g1, @sA_f1, @hR_f1, @J_in1⟩
