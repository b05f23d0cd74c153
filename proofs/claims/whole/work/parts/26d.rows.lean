/-! Rows of the blocks, by program (wip/whole/gen/emit_rows.py) -/
/-! CartoonHouse.cutOff(III)I -/
theorem k190_0 : a_bl 190 0 = [o_il 1, o_call 158, o_if 0 1, o_il 2, o_call 173, o_if 0 1, o_il 3, o_call 173, o_if 1 2, o_ft 1] := rfl
theorem k190_1 : a_bl 190 1 = [o_I (J (-1)), o_ret 1] := rfl
theorem k190_2 : a_bl 190 2 = [o_il 2, o_is 4, o_ft 3] := rfl
theorem k190_3 : a_bl 190 3 = [o_il 4, o_il 3, o_ic 4 6, o_al 0, o_I (J 0), o_I (J 0), o_il 1, o_il 4, o_call 191, o_al 0, o_I (J 0), o_I (J 1), o_il 1, o_il 4, o_call 191, o_call 145, o_is 5, o_al 0, o_I (J 47), o_I (J 0), o_il 1, o_il 4, o_call 191, o_al 0, o_I (J 31), o_I (J 1), o_il 1, o_il 4, o_call 191, o_call 145, o_is 6, o_il 5, o_if 0 4, o_il 6, o_if 1 5, o_ft 4] := rfl
theorem k190_4 : a_bl 190 4 = [o_il 4, o_ret 1] := rfl
theorem k190_5 : a_bl 190 5 = [o_iinc 4 (J 1), o_goto 3] := rfl
theorem k190_6 : a_bl 190 6 = [o_I (J (-1)), o_ret 1] := rfl
theorem k190_r : a_rt 190 = (some .int) := rfl
theorem k190_s {E : AEn} {hi : AHi} {hr : AHr} {n : Nat} {Q : ARs → Prop} (x0 : Nat) (x1 : Int32) (x2 : Int32) (x3 : Int32) : Sp E 190 [.ref x0, .int x1, .int x2, .int x3] hi hr n Q ↔ Tm E 190 (a_bl 190 0) [.ref x0, .int x1, .int x2, .int x3, a_mk, a_mk, a_mk] [] hi hr n Q := Iff.rfl
theorem K190 : (type_of% k190_0) ∧ (type_of% k190_1) ∧ (type_of% k190_2) ∧ (type_of% k190_4) ∧ (type_of% k190_5) ∧ (type_of% k190_6) ∧ (type_of% k190_r) ∧ (type_of% @k190_s) := ⟨k190_0, k190_1, k190_2, k190_4, k190_5, k190_6, k190_r, @k190_s⟩
theorem c190 {m : Nat} {is : List AOp} {ls st : List Value} {E : AEn} {hi : AHi} {hr : AHr} {n : Nat} {Q : ARs → Prop} (x0 : Nat) (x1 : Int32) (x2 : Int32) (x3 : Int32) : Tm E m (o_call 190 :: is) ls (.int x3 :: .int x2 :: .int x1 :: .ref x0 :: st) hi hr n Q ↔ (a_kd x0 = 10 ∧ x0 < n ∧ st.length ≤ 4) ∧ Sp E 190 [.ref x0, .int x1, .int x2, .int x3] hi hr n (fun r => Tm E m is ls (r.1.toList ++ st) r.2.1 r.2.2.1 r.2.2.2 Q) := T_cI [.int x1, .int x2, .int x3] rfl rfl rfl rfl
/-! CartoonHouse.placeBehind(IIII)I -/
theorem k191_0 : a_bl 191 0 = [o_al 0, o_getR 10 6, o_il 3, o_aald, o_getI 5 4, o_un 1, o_lst 5, o_al 0, o_il 4, o_call 189, o_lst 7, o_il 2, o_if 1 1, o_I (J 24), o_goto 2] := rfl
theorem k191_1 : a_bl 191 1 = [o_I (J 16), o_ft 2] := rfl
theorem k191_2 : a_bl 191 2 = [o_is 9, o_il 1, o_il 9, o_bin 1, o_un 1, o_lst 10, o_il 9, o_ll 10, o_L (L 64), o_binL 2, o_ll 5, o_binL 2, o_L (L 64), o_al 0, o_il 2, o_il 4, o_call 188, o_binL 2, o_ll 7, o_binL 2, o_binL 0, o_ll 7, o_ll 5, o_binL 2, o_call 146, o_bin 0, o_ret 1] := rfl
theorem k191_r : a_rt 191 = (some .int) := rfl
theorem k191_s {E : AEn} {hi : AHi} {hr : AHr} {n : Nat} {Q : ARs → Prop} (x0 : Nat) (x1 : Int32) (x2 : Int32) (x3 : Int32) (x4 : Int32) : Sp E 191 [.ref x0, .int x1, .int x2, .int x3, .int x4] hi hr n Q ↔ Tm E 191 (a_bl 191 0) [.ref x0, .int x1, .int x2, .int x3, .int x4, a_mk, a_mk, a_mk, a_mk, a_mk, a_mk, a_mk] [] hi hr n Q := Iff.rfl
theorem K191 : (type_of% k191_0) ∧ (type_of% k191_1) ∧ (type_of% k191_2) ∧ (type_of% k191_r) ∧ (type_of% @k191_s) := ⟨k191_0, k191_1, k191_2, k191_r, @k191_s⟩
theorem c191 {m : Nat} {is : List AOp} {ls st : List Value} {E : AEn} {hi : AHi} {hr : AHr} {n : Nat} {Q : ARs → Prop} (x0 : Nat) (x1 : Int32) (x2 : Int32) (x3 : Int32) (x4 : Int32) : Tm E m (o_call 191 :: is) ls (.int x4 :: .int x3 :: .int x2 :: .int x1 :: .ref x0 :: st) hi hr n Q ↔ (a_kd x0 = 10 ∧ x0 < n ∧ st.length ≤ 4) ∧ Sp E 191 [.ref x0, .int x1, .int x2, .int x3, .int x4] hi hr n (fun r => Tm E m is ls (r.1.toList ++ st) r.2.1 r.2.2.1 r.2.2.2 Q) := T_cI [.int x1, .int x2, .int x3, .int x4] rfl rfl rfl rfl
/-! CartoonHouse.wiggle(IIII)I -/
theorem k192_0 : a_bl 192 0 = [o_il 1, o_call 158, o_if 0 1, o_il 3, o_I (J 0), o_I (J 24), o_call 138, o_if 0 1, o_il 4, o_I (J 0), o_I (J 3), o_call 138, o_if 1 2, o_ft 1] := rfl
theorem k192_1 : a_bl 192 1 = [o_I (J (-1)), o_ret 1] := rfl
theorem k192_2 : a_bl 192 2 = [o_al 0, o_getR 10 6, o_il 1, o_aald, o_il 2, o_putI 5 5, o_al 0, o_getR 10 6, o_il 1, o_aald, o_il 3, o_putI 5 6, o_al 0, o_getR 10 6, o_il 1, o_aald, o_il 4, o_putI 5 7, o_I (J 1), o_ret 1] := rfl
theorem k192_r : a_rt 192 = (some .int) := rfl
theorem k192_s {E : AEn} {hi : AHi} {hr : AHr} {n : Nat} {Q : ARs → Prop} (x0 : Nat) (x1 : Int32) (x2 : Int32) (x3 : Int32) (x4 : Int32) : Sp E 192 [.ref x0, .int x1, .int x2, .int x3, .int x4] hi hr n Q ↔ Tm E 192 (a_bl 192 0) [.ref x0, .int x1, .int x2, .int x3, .int x4] [] hi hr n Q := Iff.rfl
theorem K192 : (type_of% k192_0) ∧ (type_of% k192_1) ∧ (type_of% k192_2) ∧ (type_of% k192_r) ∧ (type_of% @k192_s) := ⟨k192_0, k192_1, k192_2, k192_r, @k192_s⟩
theorem c192 {m : Nat} {is : List AOp} {ls st : List Value} {E : AEn} {hi : AHi} {hr : AHr} {n : Nat} {Q : ARs → Prop} (x0 : Nat) (x1 : Int32) (x2 : Int32) (x3 : Int32) (x4 : Int32) : Tm E m (o_call 192 :: is) ls (.int x4 :: .int x3 :: .int x2 :: .int x1 :: .ref x0 :: st) hi hr n Q ↔ (a_kd x0 = 10 ∧ x0 < n ∧ st.length ≤ 4) ∧ Sp E 192 [.ref x0, .int x1, .int x2, .int x3, .int x4] hi hr n (fun r => Tm E m is ls (r.1.toList ++ st) r.2.1 r.2.2.1 r.2.2.2 Q) := T_cI [.int x1, .int x2, .int x3, .int x4] rfl rfl rfl rfl
/-! CartoonHouse.node()I -/
theorem k193_0 : a_bl 193 0 = [o_al 0, o_getR 10 15, o_al 0, o_getR 10 0, o_call 90, o_is 1, o_al 0, o_getR 10 0, o_call 25, o_il 1, o_ret 1] := rfl
theorem k193_r : a_rt 193 = (some .int) := rfl
theorem k193_s {E : AEn} {hi : AHi} {hr : AHr} {n : Nat} {Q : ARs → Prop} (x0 : Nat) : Sp E 193 [.ref x0] hi hr n Q ↔ Tm E 193 (a_bl 193 0) [.ref x0, a_mk] [] hi hr n Q := Iff.rfl
theorem K193 : (type_of% k193_0) ∧ (type_of% k193_r) ∧ (type_of% @k193_s) := ⟨k193_0, k193_r, @k193_s⟩
theorem c193 {m : Nat} {is : List AOp} {ls st : List Value} {E : AEn} {hi : AHi} {hr : AHr} {n : Nat} {Q : ARs → Prop} (x0 : Nat) : Tm E m (o_call 193 :: is) ls (.ref x0 :: st) hi hr n Q ↔ (a_kd x0 = 10 ∧ x0 < n ∧ st.length ≤ 4) ∧ Sp E 193 [.ref x0] hi hr n (fun r => Tm E m is ls (r.1.toList ++ st) r.2.1 r.2.2.1 r.2.2.2 Q) := T_cI [] rfl rfl rfl rfl
/-! CartoonHouse.clear()I -/
theorem k194_0 : a_bl 194 0 = [o_al 0, o_getR 10 15, o_getI 8 2, o_is 1, o_al 0, o_getR 10 15, o_I (J 0), o_putI 8 2, o_il 1, o_ret 1] := rfl
theorem k194_r : a_rt 194 = (some .int) := rfl
theorem k194_s {E : AEn} {hi : AHi} {hr : AHr} {n : Nat} {Q : ARs → Prop} (x0 : Nat) : Sp E 194 [.ref x0] hi hr n Q ↔ Tm E 194 (a_bl 194 0) [.ref x0, a_mk] [] hi hr n Q := Iff.rfl
theorem K194 : (type_of% k194_0) ∧ (type_of% k194_r) ∧ (type_of% @k194_s) := ⟨k194_0, k194_r, @k194_s⟩
theorem c194 {m : Nat} {is : List AOp} {ls st : List Value} {E : AEn} {hi : AHi} {hr : AHr} {n : Nat} {Q : ARs → Prop} (x0 : Nat) : Tm E m (o_call 194 :: is) ls (.ref x0 :: st) hi hr n Q ↔ (a_kd x0 = 10 ∧ x0 < n ∧ st.length ≤ 4) ∧ Sp E 194 [.ref x0] hi hr n (fun r => Tm E m is ls (r.1.toList ++ st) r.2.1 r.2.2.1 r.2.2.2 Q) := T_cI [] rfl rfl rfl rfl
/-! CartoonHouse.sample(IIII)I -/
theorem k195_0 : a_bl 195 0 = [o_al 0, o_il 1, o_call 196, o_if 0 1, o_il 2, o_call 173, o_if 0 1, o_il 3, o_il 4, o_call 145, o_if 1 2, o_ft 1] := rfl
theorem k195_1 : a_bl 195 1 = [o_I (J (-1)), o_ret 1] := rfl
theorem k195_2 : a_bl 195 2 = [o_al 0, o_il 1, o_il 2, o_call 197, o_il 3, o_il 4, o_call 151, o_iald, o_is 5, o_il 5, o_I (J (-1)), o_ic 1 3, o_I (J (-1)), o_goto 4] := rfl
theorem k195_3 : a_bl 195 3 = [o_il 5, o_ft 4] := rfl
theorem k195_4 : a_bl 195 4 = [o_ret 1] := rfl
theorem k195_r : a_rt 195 = (some .int) := rfl
theorem k195_s {E : AEn} {hi : AHi} {hr : AHr} {n : Nat} {Q : ARs → Prop} (x0 : Nat) (x1 : Int32) (x2 : Int32) (x3 : Int32) (x4 : Int32) : Sp E 195 [.ref x0, .int x1, .int x2, .int x3, .int x4] hi hr n Q ↔ Tm E 195 (a_bl 195 0) [.ref x0, .int x1, .int x2, .int x3, .int x4, a_mk] [] hi hr n Q := Iff.rfl
theorem K195 : (type_of% k195_0) ∧ (type_of% k195_1) ∧ (type_of% k195_2) ∧ (type_of% k195_3) ∧ (type_of% k195_4) ∧ (type_of% k195_r) ∧ (type_of% @k195_s) := ⟨k195_0, k195_1, k195_2, k195_3, k195_4, k195_r, @k195_s⟩
theorem c195 {m : Nat} {is : List AOp} {ls st : List Value} {E : AEn} {hi : AHi} {hr : AHr} {n : Nat} {Q : ARs → Prop} (x0 : Nat) (x1 : Int32) (x2 : Int32) (x3 : Int32) (x4 : Int32) : Tm E m (o_call 195 :: is) ls (.int x4 :: .int x3 :: .int x2 :: .int x1 :: .ref x0 :: st) hi hr n Q ↔ (a_kd x0 = 10 ∧ x0 < n ∧ st.length ≤ 4) ∧ Sp E 195 [.ref x0, .int x1, .int x2, .int x3, .int x4] hi hr n (fun r => Tm E m is ls (r.1.toList ++ st) r.2.1 r.2.2.1 r.2.2.2 Q) := T_cI [.int x1, .int x2, .int x3, .int x4] rfl rfl rfl rfl
/-! CartoonHouse.isNode(I)Z -/
theorem k196_0 : a_bl 196 0 = [o_il 1, o_I (J 0), o_al 0, o_getR 10 15, o_getI 8 2, o_I (J 1), o_bin 1, o_call 138, o_ret 1] := rfl
theorem k196_r : a_rt 196 = (some .boolean) := rfl
theorem k196_s {E : AEn} {hi : AHi} {hr : AHr} {n : Nat} {Q : ARs → Prop} (x0 : Nat) (x1 : Int32) : Sp E 196 [.ref x0, .int x1] hi hr n Q ↔ Tm E 196 (a_bl 196 0) [.ref x0, .int x1] [] hi hr n Q := Iff.rfl
theorem K196 : (type_of% k196_0) ∧ (type_of% k196_r) ∧ (type_of% @k196_s) := ⟨k196_0, k196_r, @k196_s⟩
theorem c196 {m : Nat} {is : List AOp} {ls st : List Value} {E : AEn} {hi : AHi} {hr : AHr} {n : Nat} {Q : ARs → Prop} (x0 : Nat) (x1 : Int32) : Tm E m (o_call 196 :: is) ls (.int x1 :: .ref x0 :: st) hi hr n Q ↔ (a_kd x0 = 10 ∧ x0 < n ∧ st.length ≤ 4) ∧ Sp E 196 [.ref x0, .int x1] hi hr n (fun r => Tm E m is ls (r.1.toList ++ st) r.2.1 r.2.2.1 r.2.2.2 Q) := T_cI [.int x1] rfl rfl rfl rfl
/-! CartoonHouse.pictureOf(II)[I -/
theorem k197_0 : a_bl 197 0 = [o_al 0, o_getR 10 15, o_il 1, o_call 93, o_I (J 0), o_is 3, o_ft 1] := rfl
theorem k197_1 : a_bl 197 1 = [o_il 3, o_il 1, o_ic 4 4, o_al 0, o_getR 10 15, o_getR 8 4, o_il 3, o_bald, o_if 0 3, o_al 0, o_getR 10 15, o_getR 8 0, o_il 3, o_aald, o_cR 5, o_an 2, o_al 0, o_il 3, o_il 2, o_call 198, o_goto 3] := rfl
theorem k197_2 : a_bl 197 2 = [o_al 0, o_getR 10 15, o_il 3, o_il 2, o_call 95, o_ft 3] := rfl
theorem k197_3 : a_bl 197 3 = [o_iinc 3 (J 1), o_goto 1] := rfl
theorem k197_4 : a_bl 197 4 = [o_al 0, o_getR 10 15, o_getR 8 3, o_il 1, o_aald, o_ret 3] := rfl
theorem k197_r : a_rt 197 = (some (.array .int)) := rfl
theorem k197_s {E : AEn} {hi : AHi} {hr : AHr} {n : Nat} {Q : ARs → Prop} (x0 : Nat) (x1 : Int32) (x2 : Int32) : Sp E 197 [.ref x0, .int x1, .int x2] hi hr n Q ↔ Tm E 197 (a_bl 197 0) [.ref x0, .int x1, .int x2, a_mk] [] hi hr n Q := Iff.rfl
theorem K197 : (type_of% k197_0) ∧ (type_of% k197_2) ∧ (type_of% k197_3) ∧ (type_of% k197_4) ∧ (type_of% k197_r) ∧ (type_of% @k197_s) := ⟨k197_0, k197_2, k197_3, k197_4, k197_r, @k197_s⟩
theorem c197 {m : Nat} {is : List AOp} {ls st : List Value} {E : AEn} {hi : AHi} {hr : AHr} {n : Nat} {Q : ARs → Prop} (x0 : Nat) (x1 : Int32) (x2 : Int32) : Tm E m (o_call 197 :: is) ls (.int x2 :: .int x1 :: .ref x0 :: st) hi hr n Q ↔ (a_kd x0 = 10 ∧ x0 < n ∧ st.length ≤ 4) ∧ Sp E 197 [.ref x0, .int x1, .int x2] hi hr n (fun r => Tm E m is ls (r.1.toList ++ st) r.2.1 r.2.2.1 r.2.2.2 Q) := T_cI [.int x1, .int x2] rfl rfl rfl rfl
/-! CartoonHouse.drawLayer(II)V -/
theorem k198_0 : a_bl 198 0 = [o_al 0, o_getR 10 15, o_getR 8 1, o_il 1, o_aald, o_I (J 0), o_iald, o_is 3, o_al 0, o_getR 10 15, o_getR 8 3, o_il 1, o_aald, o_I (J (-1)), o_call 356, o_al 0, o_getR 10 6, o_il 3, o_aald, o_il 2, o_call 62, o_is 4, o_il 4, o_I (J (-1)), o_ic 1 1, o_ret 0] := rfl
theorem k198_1 : a_bl 198 1 = [o_al 0, o_getR 10 6, o_il 3, o_aald, o_getI 5 6, o_if 5 2, o_al 0, o_getR 10 3, o_al 0, o_getR 10 2, o_il 4, o_aald, o_al 0, o_getR 10 6, o_il 3, o_aald, o_il 2, o_call 49, o_al 0, o_getR 10 4, o_al 0, o_getR 10 3, o_call 37, o_goto 3] := rfl
theorem k198_2 : a_bl 198 2 = [o_al 0, o_getR 10 4, o_al 0, o_getR 10 2, o_il 4, o_aald, o_call 37, o_ft 3] := rfl
theorem k198_3 : a_bl 198 3 = [o_I (J 0), o_is 5, o_ft 4] := rfl
theorem k198_4 : a_bl 198 4 = [o_il 5, o_I (J 48), o_ic 3 5, o_al 0, o_getR 10 15, o_getR 8 5, o_il 5, o_al 0, o_il 5, o_I (J 0), o_il 3, o_il 2, o_call 191, o_iast, o_iinc 5 (J 1), o_goto 4] := rfl
theorem k198_5 : a_bl 198 5 = [o_I (J 0), o_is 5, o_ft 6] := rfl
theorem k198_6 : a_bl 198 6 = [o_il 5, o_I (J 32), o_ic 3 7, o_al 0, o_getR 10 15, o_getR 8 6, o_il 5, o_al 0, o_il 5, o_I (J 1), o_il 3, o_il 2, o_call 191, o_iast, o_iinc 5 (J 1), o_goto 6] := rfl
theorem k198_7 : a_bl 198 7 = [o_al 0, o_getR 10 15, o_il 1, o_al 0, o_getR 10 4, o_getR 2 1, o_al 0, o_getR 10 5, o_al 0, o_getR 10 15, o_getR 8 1, o_il 1, o_aald, o_I (J 1), o_iald, o_aald, o_call 94, o_ret 0] := rfl
theorem k198_r : a_rt 198 = none := rfl
theorem k198_s {E : AEn} {hi : AHi} {hr : AHr} {n : Nat} {Q : ARs → Prop} (x0 : Nat) (x1 : Int32) (x2 : Int32) : Sp E 198 [.ref x0, .int x1, .int x2] hi hr n Q ↔ Tm E 198 (a_bl 198 0) [.ref x0, .int x1, .int x2, a_mk, a_mk, a_mk] [] hi hr n Q := Iff.rfl
theorem K198 : (type_of% k198_0) ∧ (type_of% k198_1) ∧ (type_of% k198_2) ∧ (type_of% k198_3) ∧ (type_of% k198_5) ∧ (type_of% k198_7) ∧ (type_of% k198_r) ∧ (type_of% @k198_s) := ⟨k198_0, k198_1, k198_2, k198_3, k198_5, k198_7, k198_r, @k198_s⟩
theorem c198 {m : Nat} {is : List AOp} {ls st : List Value} {E : AEn} {hi : AHi} {hr : AHr} {n : Nat} {Q : ARs → Prop} (x0 : Nat) (x1 : Int32) (x2 : Int32) : Tm E m (o_call 198 :: is) ls (.int x2 :: .int x1 :: .ref x0 :: st) hi hr n Q ↔ (a_kd x0 = 10 ∧ x0 < n ∧ st.length ≤ 4) ∧ Sp E 198 [.ref x0, .int x1, .int x2] hi hr n (fun r => Tm E m is ls (r.1.toList ++ st) r.2.1 r.2.2.1 r.2.2.2 Q) := T_cI [.int x1, .int x2] rfl rfl rfl rfl
/-! CartoonHouse.hash(IIIII)I -/
theorem k199_0 : a_bl 199 0 = [o_il 0, o_il 1, o_call 200, o_il 2, o_call 200, o_il 3, o_call 200, o_il 4, o_call 200, o_ret 1] := rfl
theorem k199_r : a_rt 199 = (some .int) := rfl
theorem k199_s {E : AEn} {hi : AHi} {hr : AHr} {n : Nat} {Q : ARs → Prop} (x0 : Int32) (x1 : Int32) (x2 : Int32) (x3 : Int32) (x4 : Int32) : Sp E 199 [.int x0, .int x1, .int x2, .int x3, .int x4] hi hr n Q ↔ Tm E 199 (a_bl 199 0) [.int x0, .int x1, .int x2, .int x3, .int x4] [] hi hr n Q := Iff.rfl
theorem K199 : (type_of% k199_0) ∧ (type_of% k199_r) ∧ (type_of% @k199_s) := ⟨k199_0, k199_r, @k199_s⟩
theorem c199 {m : Nat} {is : List AOp} {ls st : List Value} {E : AEn} {hi : AHi} {hr : AHr} {n : Nat} {Q : ARs → Prop} (x0 : Int32) (x1 : Int32) (x2 : Int32) (x3 : Int32) (x4 : Int32) : Tm E m (o_call 199 :: is) ls (.int x4 :: .int x3 :: .int x2 :: .int x1 :: .int x0 :: st) hi hr n Q ↔ st.length ≤ 4 ∧ Sp E 199 [.int x0, .int x1, .int x2, .int x3, .int x4] hi hr n (fun r => Tm E m is ls (r.1.toList ++ st) r.2.1 r.2.2.1 r.2.2.2 Q) := T_cS [.int x0, .int x1, .int x2, .int x3, .int x4] rfl rfl
/-! CartoonHouse.stir(II)I -/
theorem k200_0 : a_bl 200 0 = [o_il 0, o_il 1, o_bin 5, o_I (J 16777619), o_bin 2, o_is 2, o_il 2, o_il 2, o_I (J 15), o_bin 8, o_bin 5, o_ret 1] := rfl
theorem k200_r : a_rt 200 = (some .int) := rfl
theorem k200_s {E : AEn} {hi : AHi} {hr : AHr} {n : Nat} {Q : ARs → Prop} (x0 : Int32) (x1 : Int32) : Sp E 200 [.int x0, .int x1] hi hr n Q ↔ Tm E 200 (a_bl 200 0) [.int x0, .int x1, a_mk] [] hi hr n Q := Iff.rfl
theorem K200 : (type_of% k200_0) ∧ (type_of% k200_r) ∧ (type_of% @k200_s) := ⟨k200_0, k200_r, @k200_s⟩
theorem c200 {m : Nat} {is : List AOp} {ls st : List Value} {E : AEn} {hi : AHi} {hr : AHr} {n : Nat} {Q : ARs → Prop} (x0 : Int32) (x1 : Int32) : Tm E m (o_call 200 :: is) ls (.int x1 :: .int x0 :: st) hi hr n Q ↔ st.length ≤ 4 ∧ Sp E 200 [.int x0, .int x1] hi hr n (fun r => Tm E m is ls (r.1.toList ++ st) r.2.1 r.2.2.1 r.2.2.2 Q) := T_cS [.int x0, .int x1] rfl rfl
/-! CartoonHouse.kept(II)I -/
theorem k201_0 : a_bl 201 0 = [o_I (J 0), o_il 1, o_il 0, o_call 349, o_call 347, o_ret 1] := rfl
theorem k201_r : a_rt 201 = (some .int) := rfl
theorem k201_s {E : AEn} {hi : AHi} {hr : AHr} {n : Nat} {Q : ARs → Prop} (x0 : Int32) (x1 : Int32) : Sp E 201 [.int x0, .int x1] hi hr n Q ↔ Tm E 201 (a_bl 201 0) [.int x0, .int x1] [] hi hr n Q := Iff.rfl
theorem K201 : (type_of% k201_0) ∧ (type_of% k201_r) ∧ (type_of% @k201_s) := ⟨k201_0, k201_r, @k201_s⟩
theorem c201 {m : Nat} {is : List AOp} {ls st : List Value} {E : AEn} {hi : AHi} {hr : AHr} {n : Nat} {Q : ARs → Prop} (x0 : Int32) (x1 : Int32) : Tm E m (o_call 201 :: is) ls (.int x1 :: .int x0 :: st) hi hr n Q ↔ st.length ≤ 4 ∧ Sp E 201 [.int x0, .int x1] hi hr n (fun r => Tm E m is ls (r.1.toList ++ st) r.2.1 r.2.2.1 r.2.2.2 Q) := T_cS [.int x0, .int x1] rfl rfl
/-! CartoonHouse.drawn(II)I -/
theorem k202_0 : a_bl 202 0 = [o_al 0, o_il 1, o_call 196, o_if 0 1, o_il 2, o_call 173, o_if 1 2, o_ft 1] := rfl
theorem k202_1 : a_bl 202 1 = [o_I (J (-1)), o_ret 1] := rfl
theorem k202_2 : a_bl 202 2 = [o_al 0, o_il 1, o_il 2, o_call 197, o_as 3, o_I (J 0), o_is 4, o_I (J 0), o_is 5, o_ft 3] := rfl
theorem k202_3 : a_bl 202 3 = [o_il 5, o_I (J 1536), o_ic 3 5, o_al 3, o_il 5, o_iald, o_I (J (-1)), o_ic 0 4, o_iinc 4 (J 1), o_ft 4] := rfl
theorem k202_4 : a_bl 202 4 = [o_iinc 5 (J 1), o_goto 3] := rfl
theorem k202_5 : a_bl 202 5 = [o_il 4, o_ret 1] := rfl
theorem k202_r : a_rt 202 = (some .int) := rfl
theorem k202_s {E : AEn} {hi : AHi} {hr : AHr} {n : Nat} {Q : ARs → Prop} (x0 : Nat) (x1 : Int32) (x2 : Int32) : Sp E 202 [.ref x0, .int x1, .int x2] hi hr n Q ↔ Tm E 202 (a_bl 202 0) [.ref x0, .int x1, .int x2, a_mk, a_mk, a_mk] [] hi hr n Q := Iff.rfl
theorem K202 : (type_of% k202_0) ∧ (type_of% k202_1) ∧ (type_of% k202_2) ∧ (type_of% k202_4) ∧ (type_of% k202_5) ∧ (type_of% k202_r) ∧ (type_of% @k202_s) := ⟨k202_0, k202_1, k202_2, k202_4, k202_5, k202_r, @k202_s⟩
theorem c202 {m : Nat} {is : List AOp} {ls st : List Value} {E : AEn} {hi : AHi} {hr : AHr} {n : Nat} {Q : ARs → Prop} (x0 : Nat) (x1 : Int32) (x2 : Int32) : Tm E m (o_call 202 :: is) ls (.int x2 :: .int x1 :: .ref x0 :: st) hi hr n Q ↔ (a_kd x0 = 10 ∧ x0 < n ∧ st.length ≤ 4) ∧ Sp E 202 [.ref x0, .int x1, .int x2] hi hr n (fun r => Tm E m is ls (r.1.toList ++ st) r.2.1 r.2.2.1 r.2.2.2 Q) := T_cI [.int x1, .int x2] rfl rfl rfl rfl
/-! CartoonHouse.film(III)I -/
theorem k203_0 : a_bl 203 0 = [o_al 0, o_il 1, o_call 196, o_if 0 1, o_il 2, o_call 173, o_if 0 1, o_il 3, o_call 173, o_if 0 1, o_il 3, o_il 2, o_bin 1, o_I (J 0), o_I (J 7), o_call 138, o_if 1 2, o_ft 1] := rfl
theorem k203_1 : a_bl 203 1 = [o_I (J (-1)), o_ret 1] := rfl
theorem k203_2 : a_bl 203 2 = [o_al 0, o_getR 10 1, o_call 25, o_al 0, o_getR 10 1, o_I (J 49264), o_call 28, o_al 0, o_getR 10 15, o_call 105, o_il 2, o_is 4, o_ft 3] := rfl
theorem k203_3 : a_bl 203 3 = [o_il 4, o_il 3, o_ic 4 4, o_al 0, o_getR 10 15, o_al 0, o_il 1, o_il 4, o_call 197, o_al 0, o_getR 10 1, o_call 106, o_iinc 4 (J 1), o_goto 3] := rfl
theorem k203_4 : a_bl 203 4 = [o_al 0, o_getR 10 15, o_al 0, o_getR 10 1, o_getI 1 1, o_putI 8 11, o_al 0, o_getR 10 1, o_getI 1 1, o_ret 1] := rfl
theorem k203_r : a_rt 203 = (some .int) := rfl
theorem k203_s {E : AEn} {hi : AHi} {hr : AHr} {n : Nat} {Q : ARs → Prop} (x0 : Nat) (x1 : Int32) (x2 : Int32) (x3 : Int32) : Sp E 203 [.ref x0, .int x1, .int x2, .int x3] hi hr n Q ↔ Tm E 203 (a_bl 203 0) [.ref x0, .int x1, .int x2, .int x3, a_mk] [] hi hr n Q := Iff.rfl
theorem K203 : (type_of% k203_0) ∧ (type_of% k203_1) ∧ (type_of% k203_2) ∧ (type_of% k203_4) ∧ (type_of% k203_r) ∧ (type_of% @k203_s) := ⟨k203_0, k203_1, k203_2, k203_4, k203_r, @k203_s⟩
theorem c203 {m : Nat} {is : List AOp} {ls st : List Value} {E : AEn} {hi : AHi} {hr : AHr} {n : Nat} {Q : ARs → Prop} (x0 : Nat) (x1 : Int32) (x2 : Int32) (x3 : Int32) : Tm E m (o_call 203 :: is) ls (.int x3 :: .int x2 :: .int x1 :: .ref x0 :: st) hi hr n Q ↔ (a_kd x0 = 10 ∧ x0 < n ∧ st.length ≤ 4) ∧ Sp E 203 [.ref x0, .int x1, .int x2, .int x3] hi hr n (fun r => Tm E m is ls (r.1.toList ++ st) r.2.1 r.2.2.1 r.2.2.2 Q) := T_cI [.int x1, .int x2, .int x3] rfl rfl rfl rfl
/-! CartoonHouse.played(III)I -/
theorem k204_0 : a_bl 204 0 = [o_il 1, o_I (J 0), o_al 0, o_getR 10 15, o_getI 8 10, o_I (J 1), o_bin 1, o_call 138, o_if 0 1, o_il 2, o_il 3, o_call 145, o_if 1 2, o_ft 1] := rfl
theorem k204_1 : a_bl 204 1 = [o_I (J (-3)), o_ret 1] := rfl
theorem k204_2 : a_bl 204 2 = [o_al 0, o_getR 10 15, o_getR 8 9, o_il 1, o_aald, o_il 2, o_il 3, o_call 151, o_iald, o_is 4, o_il 4, o_I (J (-1)), o_ic 1 3, o_I (J (-1)), o_goto 4] := rfl
theorem k204_3 : a_bl 204 3 = [o_il 4, o_ft 4] := rfl
theorem k204_4 : a_bl 204 4 = [o_ret 1] := rfl
theorem k204_r : a_rt 204 = (some .int) := rfl
theorem k204_s {E : AEn} {hi : AHi} {hr : AHr} {n : Nat} {Q : ARs → Prop} (x0 : Nat) (x1 : Int32) (x2 : Int32) (x3 : Int32) : Sp E 204 [.ref x0, .int x1, .int x2, .int x3] hi hr n Q ↔ Tm E 204 (a_bl 204 0) [.ref x0, .int x1, .int x2, .int x3, a_mk] [] hi hr n Q := Iff.rfl
theorem K204 : (type_of% k204_0) ∧ (type_of% k204_1) ∧ (type_of% k204_2) ∧ (type_of% k204_3) ∧ (type_of% k204_4) ∧ (type_of% k204_r) ∧ (type_of% @k204_s) := ⟨k204_0, k204_1, k204_2, k204_3, k204_4, k204_r, @k204_s⟩
theorem c204 {m : Nat} {is : List AOp} {ls st : List Value} {E : AEn} {hi : AHi} {hr : AHr} {n : Nat} {Q : ARs → Prop} (x0 : Nat) (x1 : Int32) (x2 : Int32) (x3 : Int32) : Tm E m (o_call 204 :: is) ls (.int x3 :: .int x2 :: .int x1 :: .ref x0 :: st) hi hr n Q ↔ (a_kd x0 = 10 ∧ x0 < n ∧ st.length ≤ 4) ∧ Sp E 204 [.ref x0, .int x1, .int x2, .int x3] hi hr n (fun r => Tm E m is ls (r.1.toList ++ st) r.2.1 r.2.2.1 r.2.2.2 Q) := T_cI [.int x1, .int x2, .int x3] rfl rfl rfl rfl
/-! CartoonHouse.flicker(II)I -/
theorem k205_0 : a_bl 205 0 = [o_al 0, o_il 1, o_call 196, o_if 0 1, o_il 2, o_I (J 1), o_I (J 118), o_call 138, o_if 1 2, o_ft 1] := rfl
theorem k205_1 : a_bl 205 1 = [o_I (J (-1)), o_ret 1] := rfl
theorem k205_2 : a_bl 205 2 = [o_al 0, o_il 1, o_il 2, o_I (J 1), o_bin 1, o_call 197, o_I (J 0), o_al 0, o_getR 10 15, o_getR 8 7, o_I (J 0), o_I (J 1536), o_cp, o_al 0, o_il 1, o_il 2, o_call 197, o_I (J 0), o_al 0, o_getR 10 15, o_getR 8 8, o_I (J 0), o_I (J 1536), o_cp, o_al 0, o_getR 10 15, o_al 0, o_il 1, o_il 2, o_I (J 1), o_bin 0, o_call 197, o_call 109, o_ret 1] := rfl
theorem k205_r : a_rt 205 = (some .int) := rfl
theorem k205_s {E : AEn} {hi : AHi} {hr : AHr} {n : Nat} {Q : ARs → Prop} (x0 : Nat) (x1 : Int32) (x2 : Int32) : Sp E 205 [.ref x0, .int x1, .int x2] hi hr n Q ↔ Tm E 205 (a_bl 205 0) [.ref x0, .int x1, .int x2] [] hi hr n Q := Iff.rfl
theorem K205 : (type_of% k205_0) ∧ (type_of% k205_1) ∧ (type_of% k205_2) ∧ (type_of% k205_r) ∧ (type_of% @k205_s) := ⟨k205_0, k205_1, k205_2, k205_r, @k205_s⟩
theorem c205 {m : Nat} {is : List AOp} {ls st : List Value} {E : AEn} {hi : AHi} {hr : AHr} {n : Nat} {Q : ARs → Prop} (x0 : Nat) (x1 : Int32) (x2 : Int32) : Tm E m (o_call 205 :: is) ls (.int x2 :: .int x1 :: .ref x0 :: st) hi hr n Q ↔ (a_kd x0 = 10 ∧ x0 < n ∧ st.length ≤ 4) ∧ Sp E 205 [.ref x0, .int x1, .int x2] hi hr n (fun r => Tm E m is ls (r.1.toList ++ st) r.2.1 r.2.2.1 r.2.2.2 Q) := T_cI [.int x1, .int x2] rfl rfl rfl rfl
/-! CartoonHouse.track(II)I -/
theorem k206_0 : a_bl 206 0 = [o_il 1, o_I (J 0), o_I (J 2), o_call 138, o_if 0 1, o_il 2, o_I (J 0), o_I (J 999), o_call 138, o_if 0 1, o_I (J 1), o_goto 2] := rfl
theorem k206_1 : a_bl 206 1 = [o_I (J 0), o_ft 2] := rfl
theorem k206_2 : a_bl 206 2 = [o_is 3, o_il 3, o_if 0 3, o_al 0, o_il 1, o_il 2, o_call 207, o_goto 4] := rfl
theorem k206_3 : a_bl 206 3 = [o_I (J (-1)), o_ft 4] := rfl
theorem k206_4 : a_bl 206 4 = [o_is 4, o_al 0, o_getR 10 0, o_call 25, o_il 4, o_ret 1] := rfl
theorem k206_r : a_rt 206 = (some .int) := rfl
theorem k206_s {E : AEn} {hi : AHi} {hr : AHr} {n : Nat} {Q : ARs → Prop} (x0 : Nat) (x1 : Int32) (x2 : Int32) : Sp E 206 [.ref x0, .int x1, .int x2] hi hr n Q ↔ Tm E 206 (a_bl 206 0) [.ref x0, .int x1, .int x2, a_mk, a_mk] [] hi hr n Q := Iff.rfl
theorem K206 : (type_of% k206_0) ∧ (type_of% k206_1) ∧ (type_of% k206_2) ∧ (type_of% k206_3) ∧ (type_of% k206_4) ∧ (type_of% k206_r) ∧ (type_of% @k206_s) := ⟨k206_0, k206_1, k206_2, k206_3, k206_4, k206_r, @k206_s⟩
theorem c206 {m : Nat} {is : List AOp} {ls st : List Value} {E : AEn} {hi : AHi} {hr : AHr} {n : Nat} {Q : ARs → Prop} (x0 : Nat) (x1 : Int32) (x2 : Int32) : Tm E m (o_call 206 :: is) ls (.int x2 :: .int x1 :: .ref x0 :: st) hi hr n Q ↔ (a_kd x0 = 10 ∧ x0 < n ∧ st.length ≤ 4) ∧ Sp E 206 [.ref x0, .int x1, .int x2] hi hr n (fun r => Tm E m is ls (r.1.toList ++ st) r.2.1 r.2.2.1 r.2.2.2 Q) := T_cI [.int x1, .int x2] rfl rfl rfl rfl
/-! CartoonHouse.readTrack(II)I -/
theorem k207_0 : a_bl 207 0 = [o_al 0, o_getR 10 0, o_call 13, o_al 0, o_getR 10 16, o_I (J 3), o_aald, o_as 3, o_I (J 0), o_is 4, o_al 0, o_getR 10 0, o_call 21, o_is 5, o_I (J 0), o_is 6, o_ft 1] := rfl
theorem k207_1 : a_bl 207 1 = [o_il 5, o_if 0 4, o_il 6, o_I (J 100), o_ic 4 4, o_il 4, o_I (J 100), o_ic 3 2, o_al 3, o_il 4, o_al 0, o_getR 10 0, o_I (J (-100)), o_I (J 100), o_call 27, o_iast, o_iinc 4 (J 1), o_goto 3] := rfl
theorem k207_2 : a_bl 207 2 = [o_al 0, o_getR 10 0, o_al 0, o_getR 10 0, o_getI 1 2, o_call 18, o_ft 3] := rfl
theorem k207_3 : a_bl 207 3 = [o_al 0, o_getR 10 0, o_call 20, o_is 5, o_iinc 6 (J 1), o_goto 1] := rfl
theorem k207_4 : a_bl 207 4 = [o_al 0, o_getR 10 0, o_call 16, o_if 1 5, o_al 0, o_getR 10 0, o_call 24, o_ret 1] := rfl
theorem k207_5 : a_bl 207 5 = [o_al 3, o_I (J 0), o_al 0, o_getR 10 16, o_il 1, o_aald, o_I (J 0), o_il 4, o_cp, o_al 0, o_getR 10 17, o_il 1, o_il 4, o_iast, o_al 0, o_getR 10 18, o_il 1, o_il 2, o_iast, o_il 4, o_ret 1] := rfl
theorem k207_r : a_rt 207 = (some .int) := rfl
theorem k207_s {E : AEn} {hi : AHi} {hr : AHr} {n : Nat} {Q : ARs → Prop} (x0 : Nat) (x1 : Int32) (x2 : Int32) : Sp E 207 [.ref x0, .int x1, .int x2] hi hr n Q ↔ Tm E 207 (a_bl 207 0) [.ref x0, .int x1, .int x2, a_mk, a_mk, a_mk, a_mk] [] hi hr n Q := Iff.rfl
theorem K207 : (type_of% k207_0) ∧ (type_of% k207_2) ∧ (type_of% k207_3) ∧ (type_of% k207_4) ∧ (type_of% k207_5) ∧ (type_of% k207_r) ∧ (type_of% @k207_s) := ⟨k207_0, k207_2, k207_3, k207_4, k207_5, k207_r, @k207_s⟩
theorem c207 {m : Nat} {is : List AOp} {ls st : List Value} {E : AEn} {hi : AHi} {hr : AHr} {n : Nat} {Q : ARs → Prop} (x0 : Nat) (x1 : Int32) (x2 : Int32) : Tm E m (o_call 207 :: is) ls (.int x2 :: .int x1 :: .ref x0 :: st) hi hr n Q ↔ (a_kd x0 = 10 ∧ x0 < n ∧ st.length ≤ 4) ∧ Sp E 207 [.ref x0, .int x1, .int x2] hi hr n (fun r => Tm E m is ls (r.1.toList ++ st) r.2.1 r.2.2.1 r.2.2.2 Q) := T_cI [.int x1, .int x2] rfl rfl rfl rfl
/-! CartoonHouse.mix(I)I -/
theorem k208_0 : a_bl 208 0 = [o_I (J 0), o_is 2, o_I (J 0), o_is 3, o_ft 1] := rfl
theorem k208_1 : a_bl 208 1 = [o_il 3, o_I (J 3), o_ic 3 3, o_il 1, o_al 0, o_getR 10 18, o_il 3, o_iald, o_ic 2 2, o_il 1, o_al 0, o_getR 10 18, o_il 3, o_iald, o_bin 1, o_al 0, o_getR 10 17, o_il 3, o_iald, o_ic 3 2, o_il 2, o_al 0, o_getR 10 16, o_il 3, o_aald, o_il 1, o_al 0, o_getR 10 18, o_il 3, o_iald, o_bin 1, o_iald, o_bin 0, o_is 2, o_ft 2] := rfl
theorem k208_2 : a_bl 208 2 = [o_iinc 3 (J 1), o_goto 1] := rfl
theorem k208_3 : a_bl 208 3 = [o_I (J (-128)), o_I (J 127), o_il 2, o_call 349, o_call 347, o_ret 1] := rfl
theorem k208_r : a_rt 208 = (some .int) := rfl
theorem k208_s {E : AEn} {hi : AHi} {hr : AHr} {n : Nat} {Q : ARs → Prop} (x0 : Nat) (x1 : Int32) : Sp E 208 [.ref x0, .int x1] hi hr n Q ↔ Tm E 208 (a_bl 208 0) [.ref x0, .int x1, a_mk, a_mk] [] hi hr n Q := Iff.rfl
theorem K208 : (type_of% k208_0) ∧ (type_of% k208_2) ∧ (type_of% k208_3) ∧ (type_of% k208_r) ∧ (type_of% @k208_s) := ⟨k208_0, k208_2, k208_3, k208_r, @k208_s⟩
theorem c208 {m : Nat} {is : List AOp} {ls st : List Value} {E : AEn} {hi : AHi} {hr : AHr} {n : Nat} {Q : ARs → Prop} (x0 : Nat) (x1 : Int32) : Tm E m (o_call 208 :: is) ls (.int x1 :: .ref x0 :: st) hi hr n Q ↔ (a_kd x0 = 10 ∧ x0 < n ∧ st.length ≤ 4) ∧ Sp E 208 [.ref x0, .int x1] hi hr n (fun r => Tm E m is ls (r.1.toList ++ st) r.2.1 r.2.2.1 r.2.2.2 Q) := T_cI [.int x1] rfl rfl rfl rfl
/-! CartoonHouse.count(I)I -/
theorem k209_0 : a_bl 209 0 = [o_il 1, o_sw 0 11 [1, 2, 3, 4, 5, 6, 7, 8, 9, 10]] := rfl
theorem k209_1 : a_bl 209 1 = [o_al 0, o_call 210, o_ret 1] := rfl
theorem k209_2 : a_bl 209 2 = [o_al 0, o_call 211, o_ret 1] := rfl
theorem k209_3 : a_bl 209 3 = [o_al 0, o_getI 10 10, o_ret 1] := rfl
theorem k209_4 : a_bl 209 4 = [o_al 0, o_getR 10 15, o_getI 8 2, o_ret 1] := rfl
theorem k209_5 : a_bl 209 5 = [o_al 0, o_getR 10 15, o_getI 8 10, o_ret 1] := rfl
theorem k209_6 : a_bl 209 6 = [o_al 0, o_getR 10 15, o_getI 8 11, o_ret 1] := rfl
theorem k209_7 : a_bl 209 7 = [o_al 0, o_getR 10 13, o_getI 6 4, o_ret 1] := rfl
theorem k209_8 : a_bl 209 8 = [o_al 0, o_getR 10 7, o_getI 7 2, o_ret 1] := rfl
theorem k209_9 : a_bl 209 9 = [o_al 0, o_getR 10 14, o_I (J 0), o_aald, o_getI 4 2, o_ret 1] := rfl
theorem k209_10 : a_bl 209 10 = [o_al 0, o_getR 10 0, o_getI 1 1, o_ret 1] := rfl
theorem k209_11 : a_bl 209 11 = [o_I (J (-1)), o_ret 1] := rfl
theorem k209_r : a_rt 209 = (some .int) := rfl
theorem k209_s {E : AEn} {hi : AHi} {hr : AHr} {n : Nat} {Q : ARs → Prop} (x0 : Nat) (x1 : Int32) : Sp E 209 [.ref x0, .int x1] hi hr n Q ↔ Tm E 209 (a_bl 209 0) [.ref x0, .int x1] [] hi hr n Q := Iff.rfl
theorem K209 : (type_of% k209_0) ∧ (type_of% k209_1) ∧ (type_of% k209_2) ∧ (type_of% k209_3) ∧ (type_of% k209_4) ∧ (type_of% k209_5) ∧ (type_of% k209_6) ∧ (type_of% k209_7) ∧ (type_of% k209_8) ∧ (type_of% k209_9) ∧ (type_of% k209_10) ∧ (type_of% k209_11) ∧ (type_of% k209_r) ∧ (type_of% @k209_s) := ⟨k209_0, k209_1, k209_2, k209_3, k209_4, k209_5, k209_6, k209_7, k209_8, k209_9, k209_10, k209_11, k209_r, @k209_s⟩
theorem c209 {m : Nat} {is : List AOp} {ls st : List Value} {E : AEn} {hi : AHi} {hr : AHr} {n : Nat} {Q : ARs → Prop} (x0 : Nat) (x1 : Int32) : Tm E m (o_call 209 :: is) ls (.int x1 :: .ref x0 :: st) hi hr n Q ↔ (a_kd x0 = 10 ∧ x0 < n ∧ st.length ≤ 4) ∧ Sp E 209 [.ref x0, .int x1] hi hr n (fun r => Tm E m is ls (r.1.toList ++ st) r.2.1 r.2.2.1 r.2.2.2 Q) := T_cI [.int x1] rfl rfl rfl rfl
/-! CartoonHouse.countStrokes()I -/
theorem k210_0 : a_bl 210 0 = [o_I (J 0), o_is 1, o_I (J 0), o_is 2, o_ft 1] := rfl
theorem k210_1 : a_bl 210 1 = [o_il 2, o_I (J 16), o_ic 3 2, o_il 1, o_al 0, o_getR 10 2, o_il 2, o_aald, o_getI 3 1, o_bin 0, o_is 1, o_iinc 2 (J 1), o_goto 1] := rfl
theorem k210_2 : a_bl 210 2 = [o_il 1, o_ret 1] := rfl
theorem k210_r : a_rt 210 = (some .int) := rfl
theorem k210_s {E : AEn} {hi : AHi} {hr : AHr} {n : Nat} {Q : ARs → Prop} (x0 : Nat) : Sp E 210 [.ref x0] hi hr n Q ↔ Tm E 210 (a_bl 210 0) [.ref x0, a_mk, a_mk] [] hi hr n Q := Iff.rfl
theorem K210 : (type_of% k210_0) ∧ (type_of% k210_2) ∧ (type_of% k210_r) ∧ (type_of% @k210_s) := ⟨k210_0, k210_2, k210_r, @k210_s⟩
theorem c210 {m : Nat} {is : List AOp} {ls st : List Value} {E : AEn} {hi : AHi} {hr : AHr} {n : Nat} {Q : ARs → Prop} (x0 : Nat) : Tm E m (o_call 210 :: is) ls (.ref x0 :: st) hi hr n Q ↔ (a_kd x0 = 10 ∧ x0 < n ∧ st.length ≤ 4) ∧ Sp E 210 [.ref x0] hi hr n (fun r => Tm E m is ls (r.1.toList ++ st) r.2.1 r.2.2.1 r.2.2.2 Q) := T_cI [] rfl rfl rfl rfl
/-! CartoonHouse.countFills()I -/
theorem k211_0 : a_bl 211 0 = [o_I (J 0), o_is 1, o_I (J 0), o_is 2, o_ft 1] := rfl
theorem k211_1 : a_bl 211 1 = [o_il 2, o_I (J 16), o_ic 3 2, o_il 1, o_al 0, o_getR 10 2, o_il 2, o_aald, o_getI 3 5, o_bin 0, o_is 1, o_iinc 2 (J 1), o_goto 1] := rfl
theorem k211_2 : a_bl 211 2 = [o_il 1, o_ret 1] := rfl
theorem k211_r : a_rt 211 = (some .int) := rfl
theorem k211_s {E : AEn} {hi : AHi} {hr : AHr} {n : Nat} {Q : ARs → Prop} (x0 : Nat) : Sp E 211 [.ref x0] hi hr n Q ↔ Tm E 211 (a_bl 211 0) [.ref x0, a_mk, a_mk] [] hi hr n Q := Iff.rfl
theorem K211 : (type_of% k211_0) ∧ (type_of% k211_2) ∧ (type_of% k211_r) ∧ (type_of% @k211_s) := ⟨k211_0, k211_2, k211_r, @k211_s⟩
theorem c211 {m : Nat} {is : List AOp} {ls st : List Value} {E : AEn} {hi : AHi} {hr : AHr} {n : Nat} {Q : ARs → Prop} (x0 : Nat) : Tm E m (o_call 211 :: is) ls (.ref x0 :: st) hi hr n Q ↔ (a_kd x0 = 10 ∧ x0 < n ∧ st.length ≤ 4) ∧ Sp E 211 [.ref x0] hi hr n (fun r => Tm E m is ls (r.1.toList ++ st) r.2.1 r.2.2.1 r.2.2.2 Q) := T_cI [] rfl rfl rfl rfl
/-! CartoonHouseModel.<init>()V -/
theorem k212_0 : a_bl 212 0 = [o_al 0, o_obj, o_al 0, o_I (J 1600), o_newa 20, o_putR 11 0, o_al 0, o_I (J 1600), o_newa 20, o_putR 11 1, o_al 0, o_I (J 49264), o_newa 20, o_putR 11 6, o_al 0, o_I (J 16), o_newa 20, o_putR 11 8, o_al 0, o_I (J 128), o_newa 20, o_putR 11 9, o_al 0, o_I (J 128), o_newa 20, o_putR 11 10, o_al 0, o_I (J 1280), o_newa 20, o_putR 11 11, o_al 0, o_I (J 1280), o_newa 20, o_putR 11 12, o_al 0, o_I (J 10), o_newa 20, o_putR 11 13, o_al 0, o_I (J 10), o_newa 20, o_putR 11 14, o_al 0, o_I (J 80), o_newa 20, o_putR 11 18, o_al 0, o_I (J 80), o_newa 20, o_putR 11 19, o_al 0, o_I (J 800), o_newa 20, o_putR 11 20, o_al 0, o_I (J 800), o_newa 20, o_putR 11 21, o_al 0, o_I (J 16), o_newa 20, o_putR 11 22, o_al 0, o_I (J 96), o_newa 20, o_putR 11 23, o_al 0, o_I (J 96), o_newa 20, o_putR 11 24, o_al 0, o_I (J 96), o_newa 20, o_putR 11 25, o_al 0, o_I (J 96), o_newa 20, o_putR 11 26, o_al 0, o_I (J 80), o_newa 20, o_putR 11 27, o_al 0, o_I (J 80), o_newa 20, o_putR 11 28, o_al 0, o_I (J 1536), o_newa 20, o_putR 11 29, o_al 0, o_I (J 1536), o_newa 20, o_putR 11 30, o_al 0, o_I (J 1536), o_newa 22, o_putR 11 31, o_al 0, o_I (J 1536), o_newa 22, o_putR 11 32, o_al 0, o_I (J 1536), o_newa 20, o_putR 11 33, o_al 0, o_I (J 16), o_newa 20, o_putR 11 34, o_al 0, o_I (J 16), o_newa 20, o_putR 11 35, o_al 0, o_I (J 64), o_newa 20, o_putR 11 38, o_al 0, o_I (J 480), o_newa 20, o_putR 11 39, o_al 0, o_I (J 4), o_newa 20, o_putR 11 40, o_al 0, o_I (J 120), o_newa 20, o_putR 11 41, o_al 0, o_I (J 4), o_newa 20, o_putR 11 43, o_al 0, o_I (J 4), o_newa 20, o_putR 11 44, o_al 0, o_I (J 2304), o_newa 20, o_putR 11 46, o_al 0, o_I (J 8), o_newa 20, o_putR 11 47, o_al 0, o_I (J 8), o_newa 20, o_putR 11 48, o_al 0, o_I (J 24), o_putI 11 51, o_al 0, o_I (J 16), o_putI 11 52, o_al 0, o_I (J 10), o_newa 20, o_putR 11 53, o_al 0, o_I (J 10), o_newa 20, o_putR 11 54, o_al 0, o_I (J 10), o_newa 20, o_putR 11 55, o_al 0, o_I (J 10), o_newa 20, o_putR 11 56, o_al 0, o_I (J 10), o_newa 20, o_putR 11 57, o_al 0, o_I (J 60), o_newa 20, o_putR 11 58, o_al 0, o_I (J 60), o_newa 20, o_putR 11 59, o_al 0, o_I (J 10), o_newa 20, o_putR 11 60, o_al 0, o_I (J 26), o_newa 20, o_putR 11 63, o_al 0, o_I (J 26), o_newa 20, o_putR 11 64, o_al 0, o_I (J 120), o_newa 20, o_putR 11 66, o_al 0, o_I (J 120), o_newa 20, o_putR 11 67, o_al 0, o_I (J 120), o_newa 20, o_putR 11 68, o_al 0, o_I (J 120), o_newa 20, o_putR 11 69, o_al 0, o_I (J 8), o_newa 20, o_putR 11 71, o_al 0, o_I (J 8), o_newa 20, o_putR 11 72, o_al 0, o_I (J 8), o_newa 20, o_putR 11 73, o_al 0, o_I (J 8), o_newa 20, o_putR 11 74, o_al 0, o_I (J 4), o_newa 20, o_putR 11 75, o_al 0, o_I (J 4), o_newa 20, o_putR 11 76, o_al 0, o_I (J 4), o_newa 20, o_putR 11 77, o_al 0, o_I (J 4), o_newa 20, o_putR 11 78, o_al 0, o_I (J 10), o_newa 20, o_putR 11 83, o_al 0, o_I (J 60), o_newa 20, o_putR 11 84, o_al 0, o_I (J 6), o_newa 20, o_putR 11 85, o_al 0, o_I (J 15360), o_newa 20, o_putR 11 86, o_al 0, o_I (J 12288), o_newa 20, o_putR 11 89, o_al 0, o_I (J 1536), o_newa 20, o_putR 11 90, o_al 0, o_I (J 1536), o_newa 20, o_putR 11 91, o_al 0, o_I (J 300), o_newa 20, o_putR 11 92, o_al 0, o_I (J 3), o_newa 20, o_putR 11 93, o_al 0, o_I (J 3), o_newa 20, o_putR 11 94, o_al 0, o_I (J 100), o_newa 20, o_putR 11 95, o_I (J 0), o_is 1, o_ft 1] := rfl
theorem k212_1 : a_bl 212 1 = [o_il 1, o_I (J 64), o_ic 3 2, o_al 0, o_getR 11 38, o_il 1, o_il 1, o_I (J 16), o_bin 10, o_I (J 1118481), o_bin 2, o_iast, o_iinc 1 (J 1), o_goto 1] := rfl
theorem k212_2 : a_bl 212 2 = [o_I (J 0), o_is 1, o_ft 3] := rfl
theorem k212_3 : a_bl 212 3 = [o_il 1, o_I (J 4), o_ic 3 4, o_al 0, o_getR 11 75, o_il 1, o_I (J 64), o_iast, o_iinc 1 (J 1), o_goto 3] := rfl
theorem k212_4 : a_bl 212 4 = [o_ret 0] := rfl
theorem k212_r : a_rt 212 = none := rfl
theorem k212_s {E : AEn} {hi : AHi} {hr : AHr} {n : Nat} {Q : ARs → Prop} (x0 : Nat) : Sp E 212 [.ref x0] hi hr n Q ↔ Tm E 212 (a_bl 212 0) [.ref x0, a_mk] [] hi hr n Q := Iff.rfl
theorem K212 : (type_of% k212_0) ∧ (type_of% k212_2) ∧ (type_of% k212_4) ∧ (type_of% k212_r) ∧ (type_of% @k212_s) := ⟨k212_0, k212_2, k212_4, k212_r, @k212_s⟩
theorem c212 {m : Nat} {is : List AOp} {ls st : List Value} {E : AEn} {hi : AHi} {hr : AHr} {n : Nat} {Q : ARs → Prop} (x0 : Nat) : Tm E m (o_call 212 :: is) ls (.ref x0 :: st) hi hr n Q ↔ (a_kd x0 = 11 ∧ x0 < n ∧ st.length ≤ 4) ∧ Sp E 212 [.ref x0] hi hr n (fun r => Tm E m is ls (r.1.toList ++ st) r.2.1 r.2.2.1 r.2.2.2 Q) := T_cI [] rfl rfl rfl rfl
/-! CartoonHouseModel.feed(IIIII)I -/
theorem k213_0 : a_bl 213 0 = [o_al 0, o_getI 11 2, o_I (J 1580), o_ic 5 1, o_I (J (-4)), o_ret 1] := rfl
theorem k213_1 : a_bl 213 1 = [o_I (J 0), o_is 6, o_ft 2] := rfl
theorem k213_2 : a_bl 213 2 = [o_il 6, o_I (J 20), o_ic 3 8, o_il 6, o_I (J 4), o_ic 3 3, o_il 1, o_goto 7] := rfl
theorem k213_3 : a_bl 213 3 = [o_il 6, o_I (J 8), o_ic 3 4, o_il 2, o_goto 7] := rfl
theorem k213_4 : a_bl 213 4 = [o_il 6, o_I (J 12), o_ic 3 5, o_il 3, o_goto 7] := rfl
theorem k213_5 : a_bl 213 5 = [o_il 6, o_I (J 16), o_ic 3 6, o_il 4, o_goto 7] := rfl
theorem k213_6 : a_bl 213 6 = [o_il 5, o_ft 7] := rfl
theorem k213_7 : a_bl 213 7 = [o_is 7, o_al 0, o_getR 11 0, o_al 0, o_getI 11 2, o_il 6, o_bin 0, o_il 7, o_I (J 24), o_I (J 8), o_il 6, o_I (J 4), o_bin 10, o_bin 2, o_bin 1, o_bin 7, o_I (J 255), o_bin 3, o_iast, o_iinc 6 (J 1), o_goto 2] := rfl
theorem k213_8 : a_bl 213 8 = [o_al 0, o_dup, o_getI 11 2, o_I (J 20), o_bin 0, o_putI 11 2, o_al 0, o_getI 11 2, o_ret 1] := rfl
theorem k213_r : a_rt 213 = (some .int) := rfl
theorem k213_s {E : AEn} {hi : AHi} {hr : AHr} {n : Nat} {Q : ARs → Prop} (x0 : Nat) (x1 : Int32) (x2 : Int32) (x3 : Int32) (x4 : Int32) (x5 : Int32) : Sp E 213 [.ref x0, .int x1, .int x2, .int x3, .int x4, .int x5] hi hr n Q ↔ Tm E 213 (a_bl 213 0) [.ref x0, .int x1, .int x2, .int x3, .int x4, .int x5, a_mk, a_mk] [] hi hr n Q := Iff.rfl
theorem K213 : (type_of% k213_0) ∧ (type_of% k213_1) ∧ (type_of% k213_3) ∧ (type_of% k213_4) ∧ (type_of% k213_5) ∧ (type_of% k213_6) ∧ (type_of% k213_7) ∧ (type_of% k213_8) ∧ (type_of% k213_r) ∧ (type_of% @k213_s) := ⟨k213_0, k213_1, k213_3, k213_4, k213_5, k213_6, k213_7, k213_8, k213_r, @k213_s⟩
theorem c213 {m : Nat} {is : List AOp} {ls st : List Value} {E : AEn} {hi : AHi} {hr : AHr} {n : Nat} {Q : ARs → Prop} (x0 : Nat) (x1 : Int32) (x2 : Int32) (x3 : Int32) (x4 : Int32) (x5 : Int32) : Tm E m (o_call 213 :: is) ls (.int x5 :: .int x4 :: .int x3 :: .int x2 :: .int x1 :: .ref x0 :: st) hi hr n Q ↔ (a_kd x0 = 11 ∧ x0 < n ∧ st.length ≤ 4) ∧ Sp E 213 [.ref x0, .int x1, .int x2, .int x3, .int x4, .int x5] hi hr n (fun r => Tm E m is ls (r.1.toList ++ st) r.2.1 r.2.2.1 r.2.2.2 Q) := T_cI [.int x1, .int x2, .int x3, .int x4, .int x5] rfl rfl rfl rfl
/-! CartoonHouseModel.end(I)I -/
theorem k214_0 : a_bl 214 0 = [o_il 1, o_if 2 1, o_il 1, o_al 0, o_getI 11 2, o_ic 5 2, o_ft 1] := rfl
theorem k214_1 : a_bl 214 1 = [o_I (J (-1)), o_ret 1] := rfl
theorem k214_2 : a_bl 214 2 = [o_al 0, o_il 1, o_putI 11 2, o_il 1, o_ret 1] := rfl
theorem k214_r : a_rt 214 = (some .int) := rfl
theorem k214_s {E : AEn} {hi : AHi} {hr : AHr} {n : Nat} {Q : ARs → Prop} (x0 : Nat) (x1 : Int32) : Sp E 214 [.ref x0, .int x1] hi hr n Q ↔ Tm E 214 (a_bl 214 0) [.ref x0, .int x1] [] hi hr n Q := Iff.rfl
theorem K214 : (type_of% k214_0) ∧ (type_of% k214_1) ∧ (type_of% k214_2) ∧ (type_of% k214_r) ∧ (type_of% @k214_s) := ⟨k214_0, k214_1, k214_2, k214_r, @k214_s⟩
theorem c214 {m : Nat} {is : List AOp} {ls st : List Value} {E : AEn} {hi : AHi} {hr : AHr} {n : Nat} {Q : ARs → Prop} (x0 : Nat) (x1 : Int32) : Tm E m (o_call 214 :: is) ls (.int x1 :: .ref x0 :: st) hi hr n Q ↔ (a_kd x0 = 11 ∧ x0 < n ∧ st.length ≤ 4) ∧ Sp E 214 [.ref x0, .int x1] hi hr n (fun r => Tm E m is ls (r.1.toList ++ st) r.2.1 r.2.2.1 r.2.2.2 Q) := T_cI [.int x1] rfl rfl rfl rfl
/-! CartoonHouseModel.out(I)I -/
theorem k215_0 : a_bl 215 0 = [o_il 1, o_if 2 1, o_il 1, o_al 0, o_getI 11 7, o_ic 3 1, o_al 0, o_getR 11 6, o_il 1, o_iald, o_goto 2] := rfl
theorem k215_1 : a_bl 215 1 = [o_I (J (-1)), o_ft 2] := rfl
theorem k215_2 : a_bl 215 2 = [o_ret 1] := rfl
theorem k215_r : a_rt 215 = (some .int) := rfl
theorem k215_s {E : AEn} {hi : AHi} {hr : AHr} {n : Nat} {Q : ARs → Prop} (x0 : Nat) (x1 : Int32) : Sp E 215 [.ref x0, .int x1] hi hr n Q ↔ Tm E 215 (a_bl 215 0) [.ref x0, .int x1] [] hi hr n Q := Iff.rfl
theorem K215 : (type_of% k215_0) ∧ (type_of% k215_1) ∧ (type_of% k215_2) ∧ (type_of% k215_r) ∧ (type_of% @k215_s) := ⟨k215_0, k215_1, k215_2, k215_r, @k215_s⟩
theorem c215 {m : Nat} {is : List AOp} {ls st : List Value} {E : AEn} {hi : AHi} {hr : AHr} {n : Nat} {Q : ARs → Prop} (x0 : Nat) (x1 : Int32) : Tm E m (o_call 215 :: is) ls (.int x1 :: .ref x0 :: st) hi hr n Q ↔ (a_kd x0 = 11 ∧ x0 < n ∧ st.length ≤ 4) ∧ Sp E 215 [.ref x0, .int x1] hi hr n (fun r => Tm E m is ls (r.1.toList ++ st) r.2.1 r.2.2.1 r.2.2.2 Q) := T_cI [.int x1] rfl rfl rfl rfl
/-! CartoonHouseModel.stroke(I)I -/
theorem k216_0 : a_bl 216 0 = [o_al 0, o_call 217, o_il 1, o_call 218, o_if 1 1, o_I (J (-1)), o_ret 1] := rfl
theorem k216_1 : a_bl 216 1 = [o_al 0, o_I (J 0), o_I (J 1), o_I (J 15), o_call 220, o_is 2, o_al 0, o_I (J 0), o_putI 11 15, o_ft 2] := rfl
theorem k216_2 : a_bl 216 2 = [o_al 0, o_call 221, o_if 0 7, o_al 0, o_getI 11 15, o_I (J 2), o_ic 2 3, o_al 0, o_getI 11 4, o_al 0, o_getI 11 3, o_ic 3 7, o_ft 3] := rfl
theorem k216_3 : a_bl 216 3 = [o_al 0, o_I (J 32), o_call 225, o_al 0, o_getI 11 4, o_is 3, o_al 0, o_call 221, o_if 0 4, o_al 0, o_getI 11 15, o_I (J 10), o_ic 1 4, o_al 0, o_al 0, o_getI 11 4, o_call 224, o_ft 4] := rfl
theorem k216_4 : a_bl 216 4 = [o_al 0, o_I (J 0), o_I (J 0), o_I (J 47), o_call 220, o_is 4, o_al 0, o_I (J 44), o_call 225, o_al 0, o_I (J 0), o_I (J 0), o_I (J 31), o_call 220, o_is 5, o_al 0, o_call 221, o_if 0 5, o_al 0, o_getI 11 15, o_if 5 5, o_al 0, o_getR 11 13, o_al 0, o_getI 11 15, o_I (J 1), o_bin 1, o_iald, o_il 4, o_ic 1 5, o_al 0, o_getR 11 14, o_al 0, o_getI 11 15, o_I (J 1), o_bin 1, o_iald, o_il 5, o_ic 1 5, o_al 0, o_il 3, o_call 224, o_ft 5] := rfl
theorem k216_5 : a_bl 216 5 = [o_al 0, o_call 221, o_if 0 6, o_al 0, o_getR 11 13, o_al 0, o_getI 11 15, o_il 4, o_iast, o_al 0, o_getR 11 14, o_al 0, o_getI 11 15, o_il 5, o_iast, o_al 0, o_dup, o_getI 11 15, o_I (J 1), o_bin 0, o_putI 11 15, o_ft 6] := rfl
theorem k216_6 : a_bl 216 6 = [o_goto 2] := rfl
theorem k216_7 : a_bl 216 7 = [o_al 0, o_call 221, o_if 1 8, o_al 0, o_call 226, o_ret 1] := rfl
theorem k216_8 : a_bl 216 8 = [o_al 0, o_getR 11 8, o_il 1, o_iald, o_I (J 8), o_ic 1 9, o_I (J (-4)), o_ret 1] := rfl
theorem k216_9 : a_bl 216 9 = [o_al 0, o_il 1, o_al 0, o_getR 11 8, o_il 1, o_iald, o_il 2, o_call 227, o_al 0, o_getR 11 8, o_il 1, o_dup2, o_iald, o_I (J 1), o_bin 0, o_iast, o_al 0, o_getR 11 8, o_il 1, o_iald, o_I (J 1), o_bin 1, o_ret 1] := rfl
theorem k216_r : a_rt 216 = (some .int) := rfl
theorem k216_s {E : AEn} {hi : AHi} {hr : AHr} {n : Nat} {Q : ARs → Prop} (x0 : Nat) (x1 : Int32) : Sp E 216 [.ref x0, .int x1] hi hr n Q ↔ Tm E 216 (a_bl 216 0) [.ref x0, .int x1, a_mk, a_mk, a_mk, a_mk] [] hi hr n Q := Iff.rfl
theorem K216 : (type_of% k216_0) ∧ (type_of% k216_1) ∧ (type_of% k216_3) ∧ (type_of% k216_4) ∧ (type_of% k216_5) ∧ (type_of% k216_6) ∧ (type_of% k216_7) ∧ (type_of% k216_8) ∧ (type_of% k216_9) ∧ (type_of% k216_r) ∧ (type_of% @k216_s) := ⟨k216_0, k216_1, k216_3, k216_4, k216_5, k216_6, k216_7, k216_8, k216_9, k216_r, @k216_s⟩
theorem c216 {m : Nat} {is : List AOp} {ls st : List Value} {E : AEn} {hi : AHi} {hr : AHr} {n : Nat} {Q : ARs → Prop} (x0 : Nat) (x1 : Int32) : Tm E m (o_call 216 :: is) ls (.int x1 :: .ref x0 :: st) hi hr n Q ↔ (a_kd x0 = 11 ∧ x0 < n ∧ st.length ≤ 4) ∧ Sp E 216 [.ref x0, .int x1] hi hr n (fun r => Tm E m is ls (r.1.toList ++ st) r.2.1 r.2.2.1 r.2.2.2 Q) := T_cI [.int x1] rfl rfl rfl rfl
/-! CartoonHouseModel.takes()V -/
theorem k217_0 : a_bl 217 0 = [o_I (J 0), o_is 1, o_ft 1] := rfl
theorem k217_1 : a_bl 217 1 = [o_il 1, o_al 0, o_getI 11 2, o_ic 3 2, o_al 0, o_getR 11 1, o_il 1, o_al 0, o_getR 11 0, o_il 1, o_iald, o_iast, o_iinc 1 (J 1), o_goto 1] := rfl
theorem k217_2 : a_bl 217 2 = [o_al 0, o_al 0, o_getI 11 2, o_putI 11 3, o_al 0, o_I (J 0), o_putI 11 2, o_al 0, o_I (J 0), o_putI 11 4, o_al 0, o_I (J (-1)), o_putI 11 5, o_ret 0] := rfl
theorem k217_r : a_rt 217 = none := rfl
theorem k217_s {E : AEn} {hi : AHi} {hr : AHr} {n : Nat} {Q : ARs → Prop} (x0 : Nat) : Sp E 217 [.ref x0] hi hr n Q ↔ Tm E 217 (a_bl 217 0) [.ref x0, a_mk] [] hi hr n Q := Iff.rfl
theorem K217 : (type_of% k217_0) ∧ (type_of% k217_2) ∧ (type_of% k217_r) ∧ (type_of% @k217_s) := ⟨k217_0, k217_2, k217_r, @k217_s⟩
theorem c217 {m : Nat} {is : List AOp} {ls st : List Value} {E : AEn} {hi : AHi} {hr : AHr} {n : Nat} {Q : ARs → Prop} (x0 : Nat) : Tm E m (o_call 217 :: is) ls (.ref x0 :: st) hi hr n Q ↔ (a_kd x0 = 11 ∧ x0 < n ∧ st.length ≤ 4) ∧ Sp E 217 [.ref x0] hi hr n (fun r => Tm E m is ls (r.1.toList ++ st) r.2.1 r.2.2.1 r.2.2.2 Q) := T_cI [] rfl rfl rfl rfl
/-! CartoonHouseModel.isDrawing(I)Z -/
theorem k218_0 : a_bl 218 0 = [o_il 0, o_I (J 0), o_I (J 15), o_call 219, o_ret 1] := rfl
theorem k218_r : a_rt 218 = (some .boolean) := rfl
theorem k218_s {E : AEn} {hi : AHi} {hr : AHr} {n : Nat} {Q : ARs → Prop} (x0 : Int32) : Sp E 218 [.int x0] hi hr n Q ↔ Tm E 218 (a_bl 218 0) [.int x0] [] hi hr n Q := Iff.rfl
theorem K218 : (type_of% k218_0) ∧ (type_of% k218_r) ∧ (type_of% @k218_s) := ⟨k218_0, k218_r, @k218_s⟩
theorem c218 {m : Nat} {is : List AOp} {ls st : List Value} {E : AEn} {hi : AHi} {hr : AHr} {n : Nat} {Q : ARs → Prop} (x0 : Int32) : Tm E m (o_call 218 :: is) ls (.int x0 :: st) hi hr n Q ↔ st.length ≤ 4 ∧ Sp E 218 [.int x0] hi hr n (fun r => Tm E m is ls (r.1.toList ++ st) r.2.1 r.2.2.1 r.2.2.2 Q) := T_cS [.int x0] rfl rfl
/-! CartoonHouseModel.in(III)Z -/
theorem k219_0 : a_bl 219 0 = [o_il 0, o_il 1, o_ic 2 1, o_il 0, o_il 2, o_ic 4 1, o_I (J 1), o_goto 2] := rfl
theorem k219_1 : a_bl 219 1 = [o_I (J 0), o_ft 2] := rfl
theorem k219_2 : a_bl 219 2 = [o_ret 1] := rfl
theorem k219_r : a_rt 219 = (some .boolean) := rfl
theorem k219_s {E : AEn} {hi : AHi} {hr : AHr} {n : Nat} {Q : ARs → Prop} (x0 : Int32) (x1 : Int32) (x2 : Int32) : Sp E 219 [.int x0, .int x1, .int x2] hi hr n Q ↔ Tm E 219 (a_bl 219 0) [.int x0, .int x1, .int x2] [] hi hr n Q := Iff.rfl
theorem K219 : (type_of% k219_0) ∧ (type_of% k219_1) ∧ (type_of% k219_2) ∧ (type_of% k219_r) ∧ (type_of% @k219_s) := ⟨k219_0, k219_1, k219_2, k219_r, @k219_s⟩
theorem c219 {m : Nat} {is : List AOp} {ls st : List Value} {E : AEn} {hi : AHi} {hr : AHr} {n : Nat} {Q : ARs → Prop} (x0 : Int32) (x1 : Int32) (x2 : Int32) : Tm E m (o_call 219 :: is) ls (.int x2 :: .int x1 :: .int x0 :: st) hi hr n Q ↔ st.length ≤ 4 ∧ Sp E 219 [.int x0, .int x1, .int x2] hi hr n (fun r => Tm E m is ls (r.1.toList ++ st) r.2.1 r.2.2.1 r.2.2.2 Q) := T_cS [.int x0, .int x1, .int x2] rfl rfl
/-! CartoonHouseModel.number(ZII)I -/
theorem k220_0 : a_bl 220 0 = [o_al 0, o_call 221, o_if 1 1, o_il 2, o_ret 1] := rfl
theorem k220_1 : a_bl 220 1 = [o_al 0, o_getI 11 4, o_is 4, o_il 1, o_if 0 2, o_al 0, o_call 222, o_I (J 45), o_ic 1 2, o_I (J 1), o_goto 3] := rfl
theorem k220_2 : a_bl 220 2 = [o_I (J 0), o_ft 3] := rfl
theorem k220_3 : a_bl 220 3 = [o_is 5, o_il 5, o_if 0 4, o_al 0, o_dup, o_getI 11 4, o_I (J 1), o_bin 0, o_putI 11 4, o_ft 4] := rfl
theorem k220_4 : a_bl 220 4 = [o_al 0, o_call 222, o_call 223, o_if 0 5, o_il 5, o_if 0 6, o_al 0, o_call 222, o_I (J 48), o_ic 1 6, o_ft 5] := rfl
theorem k220_5 : a_bl 220 5 = [o_al 0, o_al 0, o_getI 11 4, o_call 224, o_il 2, o_ret 1] := rfl
theorem k220_6 : a_bl 220 6 = [o_al 0, o_call 222, o_is 6, o_I (J 0), o_is 7, o_I (J 0), o_is 8, o_ft 7] := rfl
theorem k220_7 : a_bl 220 7 = [o_al 0, o_call 222, o_call 223, o_if 0 10, o_al 0, o_call 221, o_if 0 10, o_il 8, o_I (J 9), o_ic 0 8, o_il 8, o_if 5 9, o_il 6, o_I (J 48), o_ic 1 9, o_ft 8] := rfl
theorem k220_8 : a_bl 220 8 = [o_al 0, o_al 0, o_getI 11 4, o_call 224, o_goto 7] := rfl
theorem k220_9 : a_bl 220 9 = [o_I (J 10), o_il 7, o_bin 2, o_al 0, o_call 222, o_bin 0, o_I (J 48), o_bin 1, o_is 7, o_iinc 8 (J 1), o_al 0, o_dup, o_getI 11 4, o_I (J 1), o_bin 0, o_putI 11 4, o_goto 7] := rfl
theorem k220_10 : a_bl 220 10 = [o_al 0, o_call 221, o_if 1 11, o_il 2, o_ret 1] := rfl
theorem k220_11 : a_bl 220 11 = [o_il 5, o_if 0 12, o_il 7, o_un 0, o_goto 13] := rfl
theorem k220_12 : a_bl 220 12 = [o_il 7, o_ft 13] := rfl
theorem k220_13 : a_bl 220 13 = [o_is 7, o_il 7, o_il 2, o_ic 2 14, o_il 7, o_il 3, o_ic 5 15, o_ft 14] := rfl
theorem k220_14 : a_bl 220 14 = [o_al 0, o_il 4, o_call 224, o_ft 15] := rfl
theorem k220_15 : a_bl 220 15 = [o_il 7, o_il 2, o_ic 2 16, o_il 7, o_il 3, o_ic 5 17, o_ft 16] := rfl
theorem k220_16 : a_bl 220 16 = [o_il 2, o_goto 18] := rfl
theorem k220_17 : a_bl 220 17 = [o_il 7, o_ft 18] := rfl
theorem k220_18 : a_bl 220 18 = [o_ret 1] := rfl
theorem k220_r : a_rt 220 = (some .int) := rfl
theorem k220_s {E : AEn} {hi : AHi} {hr : AHr} {n : Nat} {Q : ARs → Prop} (x0 : Nat) (x1 : Int32) (x2 : Int32) (x3 : Int32) : Sp E 220 [.ref x0, .int x1, .int x2, .int x3] hi hr n Q ↔ Tm E 220 (a_bl 220 0) [.ref x0, .int x1, .int x2, .int x3, a_mk, a_mk, a_mk, a_mk, a_mk] [] hi hr n Q := Iff.rfl
theorem K220 : (type_of% k220_0) ∧ (type_of% k220_1) ∧ (type_of% k220_2) ∧ (type_of% k220_3) ∧ (type_of% k220_4) ∧ (type_of% k220_5) ∧ (type_of% k220_6) ∧ (type_of% k220_8) ∧ (type_of% k220_9) ∧ (type_of% k220_10) ∧ (type_of% k220_11) ∧ (type_of% k220_12) ∧ (type_of% k220_13) ∧ (type_of% k220_14) ∧ (type_of% k220_15) ∧ (type_of% k220_16) ∧ (type_of% k220_17) ∧ (type_of% k220_18) ∧ (type_of% k220_r) ∧ (type_of% @k220_s) := ⟨k220_0, k220_1, k220_2, k220_3, k220_4, k220_5, k220_6, k220_8, k220_9, k220_10, k220_11, k220_12, k220_13, k220_14, k220_15, k220_16, k220_17, k220_18, k220_r, @k220_s⟩
theorem c220 {m : Nat} {is : List AOp} {ls st : List Value} {E : AEn} {hi : AHi} {hr : AHr} {n : Nat} {Q : ARs → Prop} (x0 : Nat) (x1 : Int32) (x2 : Int32) (x3 : Int32) : Tm E m (o_call 220 :: is) ls (.int x3 :: .int x2 :: .int x1 :: .ref x0 :: st) hi hr n Q ↔ (a_kd x0 = 11 ∧ x0 < n ∧ st.length ≤ 4) ∧ Sp E 220 [.ref x0, .int x1, .int x2, .int x3] hi hr n (fun r => Tm E m is ls (r.1.toList ++ st) r.2.1 r.2.2.1 r.2.2.2 Q) := T_cI [.int x1, .int x2, .int x3] rfl rfl rfl rfl
/-! CartoonHouseModel.good()Z -/
theorem k221_0 : a_bl 221 0 = [o_al 0, o_getI 11 5, o_I (J (-1)), o_ic 1 1, o_I (J 1), o_goto 2] := rfl
theorem k221_1 : a_bl 221 1 = [o_I (J 0), o_ft 2] := rfl
theorem k221_2 : a_bl 221 2 = [o_ret 1] := rfl
theorem k221_r : a_rt 221 = (some .boolean) := rfl
theorem k221_s {E : AEn} {hi : AHi} {hr : AHr} {n : Nat} {Q : ARs → Prop} (x0 : Nat) : Sp E 221 [.ref x0] hi hr n Q ↔ Tm E 221 (a_bl 221 0) [.ref x0] [] hi hr n Q := Iff.rfl
theorem K221 : (type_of% k221_0) ∧ (type_of% k221_1) ∧ (type_of% k221_2) ∧ (type_of% k221_r) ∧ (type_of% @k221_s) := ⟨k221_0, k221_1, k221_2, k221_r, @k221_s⟩
theorem c221 {m : Nat} {is : List AOp} {ls st : List Value} {E : AEn} {hi : AHi} {hr : AHr} {n : Nat} {Q : ARs → Prop} (x0 : Nat) : Tm E m (o_call 221 :: is) ls (.ref x0 :: st) hi hr n Q ↔ (a_kd x0 = 11 ∧ x0 < n ∧ st.length ≤ 4) ∧ Sp E 221 [.ref x0] hi hr n (fun r => Tm E m is ls (r.1.toList ++ st) r.2.1 r.2.2.1 r.2.2.2 Q) := T_cI [] rfl rfl rfl rfl
/-! CartoonHouseModel.look()I -/
theorem k222_0 : a_bl 222 0 = [o_al 0, o_getI 11 4, o_al 0, o_getI 11 3, o_ic 3 1, o_al 0, o_getR 11 1, o_al 0, o_getI 11 4, o_iald, o_goto 2] := rfl
theorem k222_1 : a_bl 222 1 = [o_I (J (-1)), o_ft 2] := rfl
theorem k222_2 : a_bl 222 2 = [o_ret 1] := rfl
theorem k222_r : a_rt 222 = (some .int) := rfl
theorem k222_s {E : AEn} {hi : AHi} {hr : AHr} {n : Nat} {Q : ARs → Prop} (x0 : Nat) : Sp E 222 [.ref x0] hi hr n Q ↔ Tm E 222 (a_bl 222 0) [.ref x0] [] hi hr n Q := Iff.rfl
theorem K222 : (type_of% k222_0) ∧ (type_of% k222_1) ∧ (type_of% k222_2) ∧ (type_of% k222_r) ∧ (type_of% @k222_s) := ⟨k222_0, k222_1, k222_2, k222_r, @k222_s⟩
theorem c222 {m : Nat} {is : List AOp} {ls st : List Value} {E : AEn} {hi : AHi} {hr : AHr} {n : Nat} {Q : ARs → Prop} (x0 : Nat) : Tm E m (o_call 222 :: is) ls (.ref x0 :: st) hi hr n Q ↔ (a_kd x0 = 11 ∧ x0 < n ∧ st.length ≤ 4) ∧ Sp E 222 [.ref x0] hi hr n (fun r => Tm E m is ls (r.1.toList ++ st) r.2.1 r.2.2.1 r.2.2.2 Q) := T_cI [] rfl rfl rfl rfl
/-! CartoonHouseModel.isDigit(I)Z -/
theorem k223_0 : a_bl 223 0 = [o_il 0, o_I (J 48), o_ic 2 1, o_il 0, o_I (J 57), o_ic 4 1, o_I (J 1), o_goto 2] := rfl
theorem k223_1 : a_bl 223 1 = [o_I (J 0), o_ft 2] := rfl
theorem k223_2 : a_bl 223 2 = [o_ret 1] := rfl
theorem k223_r : a_rt 223 = (some .boolean) := rfl
theorem k223_s {E : AEn} {hi : AHi} {hr : AHr} {n : Nat} {Q : ARs → Prop} (x0 : Int32) : Sp E 223 [.int x0] hi hr n Q ↔ Tm E 223 (a_bl 223 0) [.int x0] [] hi hr n Q := Iff.rfl
theorem K223 : (type_of% k223_0) ∧ (type_of% k223_1) ∧ (type_of% k223_2) ∧ (type_of% k223_r) ∧ (type_of% @k223_s) := ⟨k223_0, k223_1, k223_2, k223_r, @k223_s⟩
theorem c223 {m : Nat} {is : List AOp} {ls st : List Value} {E : AEn} {hi : AHi} {hr : AHr} {n : Nat} {Q : ARs → Prop} (x0 : Int32) : Tm E m (o_call 223 :: is) ls (.int x0 :: st) hi hr n Q ↔ st.length ≤ 4 ∧ Sp E 223 [.int x0] hi hr n (fun r => Tm E m is ls (r.1.toList ++ st) r.2.1 r.2.2.1 r.2.2.2 Q) := T_cS [.int x0] rfl rfl
/-! CartoonHouseModel.fail(I)V -/
theorem k224_0 : a_bl 224 0 = [o_al 0, o_getI 11 5, o_I (J (-1)), o_ic 1 1, o_al 0, o_il 1, o_putI 11 5, o_ft 1] := rfl
theorem k224_1 : a_bl 224 1 = [o_ret 0] := rfl
theorem k224_r : a_rt 224 = none := rfl
theorem k224_s {E : AEn} {hi : AHi} {hr : AHr} {n : Nat} {Q : ARs → Prop} (x0 : Nat) (x1 : Int32) : Sp E 224 [.ref x0, .int x1] hi hr n Q ↔ Tm E 224 (a_bl 224 0) [.ref x0, .int x1] [] hi hr n Q := Iff.rfl
theorem K224 : (type_of% k224_0) ∧ (type_of% k224_1) ∧ (type_of% k224_r) ∧ (type_of% @k224_s) := ⟨k224_0, k224_1, k224_r, @k224_s⟩
theorem c224 {m : Nat} {is : List AOp} {ls st : List Value} {E : AEn} {hi : AHi} {hr : AHr} {n : Nat} {Q : ARs → Prop} (x0 : Nat) (x1 : Int32) : Tm E m (o_call 224 :: is) ls (.int x1 :: .ref x0 :: st) hi hr n Q ↔ (a_kd x0 = 11 ∧ x0 < n ∧ st.length ≤ 4) ∧ Sp E 224 [.ref x0, .int x1] hi hr n (fun r => Tm E m is ls (r.1.toList ++ st) r.2.1 r.2.2.1 r.2.2.2 Q) := T_cI [.int x1] rfl rfl rfl rfl
/-! CartoonHouseModel.wants(I)V -/
theorem k225_0 : a_bl 225 0 = [o_al 0, o_call 221, o_if 1 1, o_ret 0] := rfl
theorem k225_1 : a_bl 225 1 = [o_al 0, o_call 222, o_il 1, o_ic 1 2, o_al 0, o_dup, o_getI 11 4, o_I (J 1), o_bin 0, o_putI 11 4, o_goto 3] := rfl
theorem k225_2 : a_bl 225 2 = [o_al 0, o_al 0, o_getI 11 4, o_call 224, o_ft 3] := rfl
theorem k225_3 : a_bl 225 3 = [o_ret 0] := rfl
theorem k225_r : a_rt 225 = none := rfl
theorem k225_s {E : AEn} {hi : AHi} {hr : AHr} {n : Nat} {Q : ARs → Prop} (x0 : Nat) (x1 : Int32) : Sp E 225 [.ref x0, .int x1] hi hr n Q ↔ Tm E 225 (a_bl 225 0) [.ref x0, .int x1] [] hi hr n Q := Iff.rfl
theorem K225 : (type_of% k225_0) ∧ (type_of% k225_1) ∧ (type_of% k225_2) ∧ (type_of% k225_3) ∧ (type_of% k225_r) ∧ (type_of% @k225_s) := ⟨k225_0, k225_1, k225_2, k225_3, k225_r, @k225_s⟩
theorem c225 {m : Nat} {is : List AOp} {ls st : List Value} {E : AEn} {hi : AHi} {hr : AHr} {n : Nat} {Q : ARs → Prop} (x0 : Nat) (x1 : Int32) : Tm E m (o_call 225 :: is) ls (.int x1 :: .ref x0 :: st) hi hr n Q ↔ (a_kd x0 = 11 ∧ x0 < n ∧ st.length ≤ 4) ∧ Sp E 225 [.ref x0, .int x1] hi hr n (fun r => Tm E m is ls (r.1.toList ++ st) r.2.1 r.2.2.1 r.2.2.2 Q) := T_cI [.int x1] rfl rfl rfl rfl
/-! CartoonHouseModel.refused()I -/
theorem k226_0 : a_bl 226 0 = [o_I (J (-1000)), o_al 0, o_getI 11 5, o_bin 1, o_ret 1] := rfl
theorem k226_r : a_rt 226 = (some .int) := rfl
theorem k226_s {E : AEn} {hi : AHi} {hr : AHr} {n : Nat} {Q : ARs → Prop} (x0 : Nat) : Sp E 226 [.ref x0] hi hr n Q ↔ Tm E 226 (a_bl 226 0) [.ref x0] [] hi hr n Q := Iff.rfl
theorem K226 : (type_of% k226_0) ∧ (type_of% k226_r) ∧ (type_of% @k226_s) := ⟨k226_0, k226_r, @k226_s⟩
theorem c226 {m : Nat} {is : List AOp} {ls st : List Value} {E : AEn} {hi : AHi} {hr : AHr} {n : Nat} {Q : ARs → Prop} (x0 : Nat) : Tm E m (o_call 226 :: is) ls (.ref x0 :: st) hi hr n Q ↔ (a_kd x0 = 11 ∧ x0 < n ∧ st.length ≤ 4) ∧ Sp E 226 [.ref x0] hi hr n (fun r => Tm E m is ls (r.1.toList ++ st) r.2.1 r.2.2.1 r.2.2.2 Q) := T_cI [] rfl rfl rfl rfl
/-! CartoonHouseModel.lays(III)V -/
theorem k227_0 : a_bl 227 0 = [o_I (J 8), o_il 1, o_bin 2, o_il 2, o_bin 0, o_is 4, o_al 0, o_getR 11 9, o_il 4, o_il 3, o_iast, o_al 0, o_getR 11 10, o_il 4, o_al 0, o_getI 11 15, o_iast, o_I (J 0), o_is 5, o_ft 1] := rfl
theorem k227_1 : a_bl 227 1 = [o_il 5, o_al 0, o_getI 11 15, o_ic 3 2, o_al 0, o_getR 11 11, o_I (J 10), o_il 4, o_bin 2, o_il 5, o_bin 0, o_al 0, o_getR 11 13, o_il 5, o_iald, o_iast, o_al 0, o_getR 11 12, o_I (J 10), o_il 4, o_bin 2, o_il 5, o_bin 0, o_al 0, o_getR 11 14, o_il 5, o_iald, o_iast, o_iinc 5 (J 1), o_goto 1] := rfl
theorem k227_2 : a_bl 227 2 = [o_ret 0] := rfl
theorem k227_r : a_rt 227 = none := rfl
theorem k227_s {E : AEn} {hi : AHi} {hr : AHr} {n : Nat} {Q : ARs → Prop} (x0 : Nat) (x1 : Int32) (x2 : Int32) (x3 : Int32) : Sp E 227 [.ref x0, .int x1, .int x2, .int x3] hi hr n Q ↔ Tm E 227 (a_bl 227 0) [.ref x0, .int x1, .int x2, .int x3, a_mk, a_mk] [] hi hr n Q := Iff.rfl
theorem K227 : (type_of% k227_0) ∧ (type_of% k227_2) ∧ (type_of% k227_r) ∧ (type_of% @k227_s) := ⟨k227_0, k227_2, k227_r, @k227_s⟩
theorem c227 {m : Nat} {is : List AOp} {ls st : List Value} {E : AEn} {hi : AHi} {hr : AHr} {n : Nat} {Q : ARs → Prop} (x0 : Nat) (x1 : Int32) (x2 : Int32) (x3 : Int32) : Tm E m (o_call 227 :: is) ls (.int x3 :: .int x2 :: .int x1 :: .ref x0 :: st) hi hr n Q ↔ (a_kd x0 = 11 ∧ x0 < n ∧ st.length ≤ 4) ∧ Sp E 227 [.ref x0, .int x1, .int x2, .int x3] hi hr n (fun r => Tm E m is ls (r.1.toList ++ st) r.2.1 r.2.2.1 r.2.2.2 Q) := T_cI [.int x1, .int x2, .int x3] rfl rfl rfl rfl
/-! CartoonHouseModel.take(II)I -/
theorem k228_0 : a_bl 228 0 = [o_al 0, o_il 1, o_il 2, o_call 229, o_if 1 1, o_I (J (-1)), o_ret 1] := rfl
theorem k228_1 : a_bl 228 1 = [o_il 2, o_is 3, o_ft 2] := rfl
theorem k228_2 : a_bl 228 2 = [o_il 3, o_al 0, o_getR 11 8, o_il 1, o_iald, o_I (J 1), o_bin 1, o_ic 3 3, o_al 0, o_I (J 8), o_il 1, o_bin 2, o_il 3, o_bin 0, o_I (J 1), o_bin 0, o_I (J 8), o_il 1, o_bin 2, o_il 3, o_bin 0, o_call 230, o_iinc 3 (J 1), o_goto 2] := rfl
theorem k228_3 : a_bl 228 3 = [o_al 0, o_getR 11 8, o_il 1, o_dup2, o_iald, o_I (J 1), o_bin 1, o_iast, o_al 0, o_getR 11 8, o_il 1, o_iald, o_ret 1] := rfl
theorem k228_r : a_rt 228 = (some .int) := rfl
theorem k228_s {E : AEn} {hi : AHi} {hr : AHr} {n : Nat} {Q : ARs → Prop} (x0 : Nat) (x1 : Int32) (x2 : Int32) : Sp E 228 [.ref x0, .int x1, .int x2] hi hr n Q ↔ Tm E 228 (a_bl 228 0) [.ref x0, .int x1, .int x2, a_mk] [] hi hr n Q := Iff.rfl
theorem K228 : (type_of% k228_0) ∧ (type_of% k228_1) ∧ (type_of% k228_3) ∧ (type_of% k228_r) ∧ (type_of% @k228_s) := ⟨k228_0, k228_1, k228_3, k228_r, @k228_s⟩
theorem c228 {m : Nat} {is : List AOp} {ls st : List Value} {E : AEn} {hi : AHi} {hr : AHr} {n : Nat} {Q : ARs → Prop} (x0 : Nat) (x1 : Int32) (x2 : Int32) : Tm E m (o_call 228 :: is) ls (.int x2 :: .int x1 :: .ref x0 :: st) hi hr n Q ↔ (a_kd x0 = 11 ∧ x0 < n ∧ st.length ≤ 4) ∧ Sp E 228 [.ref x0, .int x1, .int x2] hi hr n (fun r => Tm E m is ls (r.1.toList ++ st) r.2.1 r.2.2.1 r.2.2.2 Q) := T_cI [.int x1, .int x2] rfl rfl rfl rfl
/-! CartoonHouseModel.isStroke(II)Z -/
theorem k229_0 : a_bl 229 0 = [o_il 1, o_call 218, o_if 0 1, o_il 2, o_I (J 0), o_al 0, o_getR 11 8, o_il 1, o_iald, o_I (J 1), o_bin 1, o_call 219, o_if 0 1, o_I (J 1), o_goto 2] := rfl
theorem k229_1 : a_bl 229 1 = [o_I (J 0), o_ft 2] := rfl
theorem k229_2 : a_bl 229 2 = [o_ret 1] := rfl
theorem k229_r : a_rt 229 = (some .boolean) := rfl
theorem k229_s {E : AEn} {hi : AHi} {hr : AHr} {n : Nat} {Q : ARs → Prop} (x0 : Nat) (x1 : Int32) (x2 : Int32) : Sp E 229 [.ref x0, .int x1, .int x2] hi hr n Q ↔ Tm E 229 (a_bl 229 0) [.ref x0, .int x1, .int x2] [] hi hr n Q := Iff.rfl
theorem K229 : (type_of% k229_0) ∧ (type_of% k229_1) ∧ (type_of% k229_2) ∧ (type_of% k229_r) ∧ (type_of% @k229_s) := ⟨k229_0, k229_1, k229_2, k229_r, @k229_s⟩
theorem c229 {m : Nat} {is : List AOp} {ls st : List Value} {E : AEn} {hi : AHi} {hr : AHr} {n : Nat} {Q : ARs → Prop} (x0 : Nat) (x1 : Int32) (x2 : Int32) : Tm E m (o_call 229 :: is) ls (.int x2 :: .int x1 :: .ref x0 :: st) hi hr n Q ↔ (a_kd x0 = 11 ∧ x0 < n ∧ st.length ≤ 4) ∧ Sp E 229 [.ref x0, .int x1, .int x2] hi hr n (fun r => Tm E m is ls (r.1.toList ++ st) r.2.1 r.2.2.1 r.2.2.2 Q) := T_cI [.int x1, .int x2] rfl rfl rfl rfl
/-! CartoonHouseModel.copies(II)V -/
theorem k230_0 : a_bl 230 0 = [o_al 0, o_getR 11 9, o_il 2, o_al 0, o_getR 11 9, o_il 1, o_iald, o_iast, o_al 0, o_getR 11 10, o_il 2, o_al 0, o_getR 11 10, o_il 1, o_iald, o_iast, o_I (J 0), o_is 3, o_ft 1] := rfl
theorem k230_1 : a_bl 230 1 = [o_il 3, o_I (J 10), o_ic 3 2, o_al 0, o_getR 11 11, o_I (J 10), o_il 2, o_bin 2, o_il 3, o_bin 0, o_al 0, o_getR 11 11, o_I (J 10), o_il 1, o_bin 2, o_il 3, o_bin 0, o_iald, o_iast, o_al 0, o_getR 11 12, o_I (J 10), o_il 2, o_bin 2, o_il 3, o_bin 0, o_al 0, o_getR 11 12, o_I (J 10), o_il 1, o_bin 2, o_il 3, o_bin 0, o_iald, o_iast, o_iinc 3 (J 1), o_goto 1] := rfl
theorem k230_2 : a_bl 230 2 = [o_ret 0] := rfl
theorem k230_r : a_rt 230 = none := rfl
theorem k230_s {E : AEn} {hi : AHi} {hr : AHr} {n : Nat} {Q : ARs → Prop} (x0 : Nat) (x1 : Int32) (x2 : Int32) : Sp E 230 [.ref x0, .int x1, .int x2] hi hr n Q ↔ Tm E 230 (a_bl 230 0) [.ref x0, .int x1, .int x2, a_mk] [] hi hr n Q := Iff.rfl
theorem K230 : (type_of% k230_0) ∧ (type_of% k230_2) ∧ (type_of% k230_r) ∧ (type_of% @k230_s) := ⟨k230_0, k230_2, k230_r, @k230_s⟩
theorem c230 {m : Nat} {is : List AOp} {ls st : List Value} {E : AEn} {hi : AHi} {hr : AHr} {n : Nat} {Q : ARs → Prop} (x0 : Nat) (x1 : Int32) (x2 : Int32) : Tm E m (o_call 230 :: is) ls (.int x2 :: .int x1 :: .ref x0 :: st) hi hr n Q ↔ (a_kd x0 = 11 ∧ x0 < n ∧ st.length ≤ 4) ∧ Sp E 230 [.ref x0, .int x1, .int x2] hi hr n (fun r => Tm E m is ls (r.1.toList ++ st) r.2.1 r.2.2.1 r.2.2.2 Q) := T_cI [.int x1, .int x2] rfl rfl rfl rfl
/-! CartoonHouseModel.written(I)I -/
theorem k231_0 : a_bl 231 0 = [o_il 1, o_call 218, o_if 1 1, o_I (J (-1)), o_ret 1] := rfl
theorem k231_1 : a_bl 231 1 = [o_al 0, o_I (J 0), o_putI 11 7, o_I (J 8), o_il 1, o_bin 2, o_is 2, o_ft 2] := rfl
theorem k231_2 : a_bl 231 2 = [o_il 2, o_I (J 8), o_il 1, o_bin 2, o_al 0, o_getR 11 8, o_il 1, o_iald, o_bin 0, o_ic 3 5, o_al 0, o_al 0, o_getR 11 9, o_il 2, o_iald, o_call 232, o_I (J 10), o_il 2, o_bin 2, o_is 3, o_ft 3] := rfl
theorem k231_3 : a_bl 231 3 = [o_il 3, o_I (J 10), o_il 2, o_bin 2, o_al 0, o_getR 11 10, o_il 2, o_iald, o_bin 0, o_ic 3 4, o_al 0, o_I (J 32), o_call 233, o_al 0, o_al 0, o_getR 11 11, o_il 3, o_iald, o_call 232, o_al 0, o_I (J 44), o_call 233, o_al 0, o_al 0, o_getR 11 12, o_il 3, o_iald, o_call 232, o_iinc 3 (J 1), o_goto 3] := rfl
theorem k231_4 : a_bl 231 4 = [o_al 0, o_I (J 10), o_call 233, o_iinc 2 (J 1), o_goto 2] := rfl
theorem k231_5 : a_bl 231 5 = [o_al 0, o_getI 11 7, o_ret 1] := rfl
theorem k231_r : a_rt 231 = (some .int) := rfl
theorem k231_s {E : AEn} {hi : AHi} {hr : AHr} {n : Nat} {Q : ARs → Prop} (x0 : Nat) (x1 : Int32) : Sp E 231 [.ref x0, .int x1] hi hr n Q ↔ Tm E 231 (a_bl 231 0) [.ref x0, .int x1, a_mk, a_mk] [] hi hr n Q := Iff.rfl
theorem K231 : (type_of% k231_0) ∧ (type_of% k231_1) ∧ (type_of% k231_4) ∧ (type_of% k231_5) ∧ (type_of% k231_r) ∧ (type_of% @k231_s) := ⟨k231_0, k231_1, k231_4, k231_5, k231_r, @k231_s⟩
theorem c231 {m : Nat} {is : List AOp} {ls st : List Value} {E : AEn} {hi : AHi} {hr : AHr} {n : Nat} {Q : ARs → Prop} (x0 : Nat) (x1 : Int32) : Tm E m (o_call 231 :: is) ls (.int x1 :: .ref x0 :: st) hi hr n Q ↔ (a_kd x0 = 11 ∧ x0 < n ∧ st.length ≤ 4) ∧ Sp E 231 [.ref x0, .int x1] hi hr n (fun r => Tm E m is ls (r.1.toList ++ st) r.2.1 r.2.2.1 r.2.2.2 Q) := T_cI [.int x1] rfl rfl rfl rfl
/-! CartoonHouseModel.puts(I)V -/
theorem k232_0 : a_bl 232 0 = [o_I (J 1), o_is 2, o_ft 1] := rfl
theorem k232_1 : a_bl 232 1 = [o_il 1, o_il 2, o_bin 9, o_I (J 9), o_ic 5 2, o_I (J 10), o_il 2, o_bin 2, o_is 2, o_goto 1] := rfl
theorem k232_2 : a_bl 232 2 = [o_il 2, o_is 3, o_ft 3] := rfl
theorem k232_3 : a_bl 232 3 = [o_il 3, o_if 5 4, o_al 0, o_I (J 48), o_il 1, o_il 3, o_bin 9, o_I (J 10), o_bin 10, o_bin 0, o_call 233, o_il 3, o_I (J 10), o_bin 9, o_is 3, o_goto 3] := rfl
theorem k232_4 : a_bl 232 4 = [o_ret 0] := rfl
theorem k232_r : a_rt 232 = none := rfl
theorem k232_s {E : AEn} {hi : AHi} {hr : AHr} {n : Nat} {Q : ARs → Prop} (x0 : Nat) (x1 : Int32) : Sp E 232 [.ref x0, .int x1] hi hr n Q ↔ Tm E 232 (a_bl 232 0) [.ref x0, .int x1, a_mk, a_mk] [] hi hr n Q := Iff.rfl
theorem K232 : (type_of% k232_0) ∧ (type_of% k232_2) ∧ (type_of% k232_4) ∧ (type_of% k232_r) ∧ (type_of% @k232_s) := ⟨k232_0, k232_2, k232_4, k232_r, @k232_s⟩
theorem c232 {m : Nat} {is : List AOp} {ls st : List Value} {E : AEn} {hi : AHi} {hr : AHr} {n : Nat} {Q : ARs → Prop} (x0 : Nat) (x1 : Int32) : Tm E m (o_call 232 :: is) ls (.int x1 :: .ref x0 :: st) hi hr n Q ↔ (a_kd x0 = 11 ∧ x0 < n ∧ st.length ≤ 4) ∧ Sp E 232 [.ref x0, .int x1] hi hr n (fun r => Tm E m is ls (r.1.toList ++ st) r.2.1 r.2.2.1 r.2.2.2 Q) := T_cI [.int x1] rfl rfl rfl rfl
/-! CartoonHouseModel.put(I)V -/
theorem k233_0 : a_bl 233 0 = [o_al 0, o_getR 11 6, o_al 0, o_getI 11 7, o_il 1, o_iast, o_al 0, o_dup, o_getI 11 7, o_I (J 1), o_bin 0, o_putI 11 7, o_ret 0] := rfl
theorem k233_r : a_rt 233 = none := rfl
theorem k233_s {E : AEn} {hi : AHi} {hr : AHr} {n : Nat} {Q : ARs → Prop} (x0 : Nat) (x1 : Int32) : Sp E 233 [.ref x0, .int x1] hi hr n Q ↔ Tm E 233 (a_bl 233 0) [.ref x0, .int x1] [] hi hr n Q := Iff.rfl
theorem K233 : (type_of% k233_0) ∧ (type_of% k233_r) ∧ (type_of% @k233_s) := ⟨k233_0, k233_r, @k233_s⟩
theorem c233 {m : Nat} {is : List AOp} {ls st : List Value} {E : AEn} {hi : AHi} {hr : AHr} {n : Nat} {Q : ARs → Prop} (x0 : Nat) (x1 : Int32) : Tm E m (o_call 233 :: is) ls (.int x1 :: .ref x0 :: st) hi hr n Q ↔ (a_kd x0 = 11 ∧ x0 < n ∧ st.length ≤ 4) ∧ Sp E 233 [.ref x0, .int x1] hi hr n (fun r => Tm E m is ls (r.1.toList ++ st) r.2.1 r.2.2.1 r.2.2.2 Q) := T_cI [.int x1] rfl rfl rfl rfl
/-! CartoonHouseModel.fit(III)I -/
theorem k234_0 : a_bl 234 0 = [o_al 0, o_il 1, o_il 2, o_call 229, o_if 0 1, o_il 3, o_I (J 0), o_I (J 20), o_call 219, o_if 1 2, o_ft 1] := rfl
theorem k234_1 : a_bl 234 1 = [o_I (J (-1)), o_ret 1] := rfl
theorem k234_2 : a_bl 234 2 = [o_I (J 8), o_il 1, o_bin 2, o_il 2, o_bin 0, o_is 4, o_al 0, o_I (J 1), o_putI 11 15, o_al 0, o_getR 11 13, o_I (J 0), o_al 0, o_getR 11 11, o_I (J 10), o_il 4, o_bin 2, o_iald, o_iast, o_al 0, o_getR 11 14, o_I (J 0), o_al 0, o_getR 11 12, o_I (J 10), o_il 4, o_bin 2, o_iald, o_iast, o_I (J 0), o_is 5, o_ft 3] := rfl
theorem k234_3 : a_bl 234 3 = [o_il 5, o_al 0, o_getR 11 10, o_il 4, o_iald, o_I (J 1), o_bin 1, o_ic 3 10, o_il 5, o_I (J 1), o_bin 0, o_is 6, o_il 5, o_I (J 1), o_bin 0, o_is 7, o_ft 4] := rfl
theorem k234_4 : a_bl 234 4 = [o_il 7, o_al 0, o_getR 11 10, o_il 4, o_iald, o_ic 3 9, o_al 0, o_getR 11 11, o_I (J 10), o_il 4, o_bin 2, o_il 7, o_bin 0, o_iald, o_al 0, o_getR 11 11, o_I (J 10), o_il 4, o_bin 2, o_il 5, o_bin 0, o_iald, o_ic 1 5, o_al 0, o_getR 11 12, o_I (J 10), o_il 4, o_bin 2, o_il 7, o_bin 0, o_iald, o_al 0, o_getR 11 12, o_I (J 10), o_il 4, o_bin 2, o_il 5, o_bin 0, o_iald, o_ic 0 6, o_ft 5] := rfl
theorem k234_5 : a_bl 234 5 = [o_I (J 1), o_goto 7] := rfl
theorem k234_6 : a_bl 234 6 = [o_I (J 0), o_ft 7] := rfl
theorem k234_7 : a_bl 234 7 = [o_is 8, o_il 8, o_if 0 8, o_al 0, o_il 4, o_il 5, o_il 7, o_il 3, o_call 235, o_if 0 8, o_il 7, o_is 6, o_ft 8] := rfl
theorem k234_8 : a_bl 234 8 = [o_iinc 7 (J 1), o_goto 4] := rfl
theorem k234_9 : a_bl 234 9 = [o_il 6, o_is 5, o_al 0, o_getR 11 13, o_al 0, o_getI 11 15, o_al 0, o_getR 11 11, o_I (J 10), o_il 4, o_bin 2, o_il 5, o_bin 0, o_iald, o_iast, o_al 0, o_getR 11 14, o_al 0, o_getI 11 15, o_al 0, o_getR 11 12, o_I (J 10), o_il 4, o_bin 2, o_il 5, o_bin 0, o_iald, o_iast, o_al 0, o_dup, o_getI 11 15, o_I (J 1), o_bin 0, o_putI 11 15, o_goto 3] := rfl
theorem k234_10 : a_bl 234 10 = [o_al 0, o_il 1, o_il 2, o_al 0, o_getR 11 9, o_il 4, o_iald, o_call 227, o_al 0, o_getI 11 15, o_ret 1] := rfl
theorem k234_r : a_rt 234 = (some .int) := rfl
theorem k234_s {E : AEn} {hi : AHi} {hr : AHr} {n : Nat} {Q : ARs → Prop} (x0 : Nat) (x1 : Int32) (x2 : Int32) (x3 : Int32) : Sp E 234 [.ref x0, .int x1, .int x2, .int x3] hi hr n Q ↔ Tm E 234 (a_bl 234 0) [.ref x0, .int x1, .int x2, .int x3, a_mk, a_mk, a_mk, a_mk, a_mk] [] hi hr n Q := Iff.rfl
theorem K234 : (type_of% k234_0) ∧ (type_of% k234_1) ∧ (type_of% k234_2) ∧ (type_of% k234_5) ∧ (type_of% k234_6) ∧ (type_of% k234_7) ∧ (type_of% k234_8) ∧ (type_of% k234_9) ∧ (type_of% k234_10) ∧ (type_of% k234_r) ∧ (type_of% @k234_s) := ⟨k234_0, k234_1, k234_2, k234_5, k234_6, k234_7, k234_8, k234_9, k234_10, k234_r, @k234_s⟩
theorem c234 {m : Nat} {is : List AOp} {ls st : List Value} {E : AEn} {hi : AHi} {hr : AHr} {n : Nat} {Q : ARs → Prop} (x0 : Nat) (x1 : Int32) (x2 : Int32) (x3 : Int32) : Tm E m (o_call 234 :: is) ls (.int x3 :: .int x2 :: .int x1 :: .ref x0 :: st) hi hr n Q ↔ (a_kd x0 = 11 ∧ x0 < n ∧ st.length ≤ 4) ∧ Sp E 234 [.ref x0, .int x1, .int x2, .int x3] hi hr n (fun r => Tm E m is ls (r.1.toList ++ st) r.2.1 r.2.2.1 r.2.2.2 Q) := T_cI [.int x1, .int x2, .int x3] rfl rfl rfl rfl
/-! CartoonHouseModel.areClose(IIII)Z -/
theorem k235_0 : a_bl 235 0 = [o_al 0, o_getR 11 11, o_I (J 10), o_il 1, o_bin 2, o_il 3, o_bin 0, o_iald, o_al 0, o_getR 11 11, o_I (J 10), o_il 1, o_bin 2, o_il 2, o_bin 0, o_iald, o_bin 1, o_un 1, o_lst 5, o_al 0, o_getR 11 12, o_I (J 10), o_il 1, o_bin 2, o_il 3, o_bin 0, o_iald, o_al 0, o_getR 11 12, o_I (J 10), o_il 1, o_bin 2, o_il 2, o_bin 0, o_iald, o_bin 1, o_un 1, o_lst 7, o_I (J 1), o_is 9, o_il 2, o_I (J 1), o_bin 0, o_is 10, o_ft 1] := rfl
theorem k235_1 : a_bl 235 1 = [o_il 10, o_il 3, o_ic 3 4, o_ll 5, o_al 0, o_getR 11 12, o_I (J 10), o_il 1, o_bin 2, o_il 10, o_bin 0, o_iald, o_al 0, o_getR 11 12, o_I (J 10), o_il 1, o_bin 2, o_il 2, o_bin 0, o_iald, o_bin 1, o_un 1, o_binL 2, o_ll 7, o_al 0, o_getR 11 11, o_I (J 10), o_il 1, o_bin 2, o_il 10, o_bin 0, o_iald, o_al 0, o_getR 11 11, o_I (J 10), o_il 1, o_bin 2, o_il 2, o_bin 0, o_iald, o_bin 1, o_un 1, o_binL 2, o_binL 1, o_lst 11, o_il 9, o_if 0 2, o_ll 11, o_ll 11, o_binL 2, o_il 4, o_un 1, o_il 4, o_un 1, o_binL 2, o_ll 5, o_ll 5, o_binL 2, o_ll 7, o_ll 7, o_binL 2, o_binL 0, o_binL 2, o_binL 5, o_if 4 2, o_I (J 1), o_goto 3] := rfl
theorem k235_2 : a_bl 235 2 = [o_I (J 0), o_ft 3] := rfl
theorem k235_3 : a_bl 235 3 = [o_is 9, o_iinc 10 (J 1), o_goto 1] := rfl
theorem k235_4 : a_bl 235 4 = [o_il 9, o_ret 1] := rfl
theorem k235_r : a_rt 235 = (some .boolean) := rfl
theorem k235_s {E : AEn} {hi : AHi} {hr : AHr} {n : Nat} {Q : ARs → Prop} (x0 : Nat) (x1 : Int32) (x2 : Int32) (x3 : Int32) (x4 : Int32) : Sp E 235 [.ref x0, .int x1, .int x2, .int x3, .int x4] hi hr n Q ↔ Tm E 235 (a_bl 235 0) [.ref x0, .int x1, .int x2, .int x3, .int x4, a_mk, a_mk, a_mk, a_mk, a_mk, a_mk, a_mk, a_mk] [] hi hr n Q := Iff.rfl
theorem K235 : (type_of% k235_0) ∧ (type_of% k235_2) ∧ (type_of% k235_3) ∧ (type_of% k235_4) ∧ (type_of% k235_r) ∧ (type_of% @k235_s) := ⟨k235_0, k235_2, k235_3, k235_4, k235_r, @k235_s⟩
theorem c235 {m : Nat} {is : List AOp} {ls st : List Value} {E : AEn} {hi : AHi} {hr : AHr} {n : Nat} {Q : ARs → Prop} (x0 : Nat) (x1 : Int32) (x2 : Int32) (x3 : Int32) (x4 : Int32) : Tm E m (o_call 235 :: is) ls (.int x4 :: .int x3 :: .int x2 :: .int x1 :: .ref x0 :: st) hi hr n Q ↔ (a_kd x0 = 11 ∧ x0 < n ∧ st.length ≤ 4) ∧ Sp E 235 [.ref x0, .int x1, .int x2, .int x3, .int x4] hi hr n (fun r => Tm E m is ls (r.1.toList ++ st) r.2.1 r.2.2.1 r.2.2.2 Q) := T_cI [.int x1, .int x2, .int x3, .int x4] rfl rfl rfl rfl
/-! CartoonHouseModel.erase(IIII)I -/
theorem k236_0 : a_bl 236 0 = [o_il 1, o_call 218, o_if 0 1, o_il 2, o_il 3, o_call 237, o_if 0 1, o_il 4, o_I (J 0), o_I (J 10), o_call 219, o_if 1 2, o_ft 1] := rfl
theorem k236_1 : a_bl 236 1 = [o_I (J (-1)), o_ret 1] := rfl
theorem k236_2 : a_bl 236 2 = [o_I (J 0), o_is 5, o_I (J 0), o_is 6, o_I (J 8), o_il 1, o_bin 2, o_is 7, o_ft 3] := rfl
theorem k236_3 : a_bl 236 3 = [o_il 7, o_I (J 8), o_il 1, o_bin 2, o_al 0, o_getR 11 8, o_il 1, o_iald, o_bin 0, o_ic 3 9, o_I (J 0), o_is 8, o_I (J 10), o_il 7, o_bin 2, o_is 9, o_ft 4] := rfl
theorem k236_4 : a_bl 236 4 = [o_il 9, o_I (J 10), o_il 7, o_bin 2, o_al 0, o_getR 11 10, o_il 7, o_iald, o_bin 0, o_I (J 1), o_bin 1, o_ic 3 8, o_al 0, o_al 0, o_getR 11 11, o_il 9, o_iald, o_al 0, o_getR 11 12, o_il 9, o_iald, o_al 0, o_getR 11 11, o_il 9, o_I (J 1), o_bin 0, o_iald, o_al 0, o_getR 11 12, o_il 9, o_I (J 1), o_bin 0, o_iald, o_il 2, o_il 3, o_il 4, o_call 238, o_if 0 5, o_iinc 6 (J 1), o_I (J 0), o_is 8, o_goto 7] := rfl
theorem k236_5 : a_bl 236 5 = [o_il 8, o_if 1 6, o_al 0, o_getR 11 18, o_il 5, o_al 0, o_getR 11 9, o_il 7, o_iald, o_iast, o_al 0, o_getR 11 19, o_il 5, o_I (J 1), o_iast, o_al 0, o_getR 11 20, o_I (J 10), o_il 5, o_bin 2, o_al 0, o_getR 11 11, o_il 9, o_iald, o_iast, o_al 0, o_getR 11 21, o_I (J 10), o_il 5, o_bin 2, o_al 0, o_getR 11 12, o_il 9, o_iald, o_iast, o_iinc 5 (J 1), o_I (J 1), o_is 8, o_ft 6] := rfl
theorem k236_6 : a_bl 236 6 = [o_I (J 10), o_il 5, o_I (J 1), o_bin 1, o_bin 2, o_al 0, o_getR 11 19, o_il 5, o_I (J 1), o_bin 1, o_iald, o_bin 0, o_is 10, o_al 0, o_getR 11 20, o_il 10, o_al 0, o_getR 11 11, o_il 9, o_I (J 1), o_bin 0, o_iald, o_iast, o_al 0, o_getR 11 21, o_il 10, o_al 0, o_getR 11 12, o_il 9, o_I (J 1), o_bin 0, o_iald, o_iast, o_al 0, o_getR 11 19, o_il 5, o_I (J 1), o_bin 1, o_dup2, o_iald, o_I (J 1), o_bin 0, o_iast, o_ft 7] := rfl
theorem k236_7 : a_bl 236 7 = [o_iinc 9 (J 1), o_goto 4] := rfl
theorem k236_8 : a_bl 236 8 = [o_iinc 7 (J 1), o_goto 3] := rfl
theorem k236_9 : a_bl 236 9 = [o_il 5, o_I (J 8), o_ic 5 10, o_I (J (-4)), o_ret 1] := rfl
theorem k236_10 : a_bl 236 10 = [o_al 0, o_getR 11 8, o_il 1, o_il 5, o_iast, o_I (J 0), o_is 7, o_ft 11] := rfl
theorem k236_11 : a_bl 236 11 = [o_il 7, o_il 5, o_ic 3 14, o_al 0, o_al 0, o_getR 11 19, o_il 7, o_iald, o_putI 11 15, o_I (J 0), o_is 8, o_ft 12] := rfl
theorem k236_12 : a_bl 236 12 = [o_il 8, o_al 0, o_getI 11 15, o_ic 3 13, o_al 0, o_getR 11 13, o_il 8, o_al 0, o_getR 11 20, o_I (J 10), o_il 7, o_bin 2, o_il 8, o_bin 0, o_iald, o_iast, o_al 0, o_getR 11 14, o_il 8, o_al 0, o_getR 11 21, o_I (J 10), o_il 7, o_bin 2, o_il 8, o_bin 0, o_iald, o_iast, o_iinc 8 (J 1), o_goto 12] := rfl
theorem k236_13 : a_bl 236 13 = [o_al 0, o_il 1, o_il 7, o_al 0, o_getR 11 18, o_il 7, o_iald, o_call 227, o_iinc 7 (J 1), o_goto 11] := rfl
theorem k236_14 : a_bl 236 14 = [o_il 6, o_ret 1] := rfl
theorem k236_r : a_rt 236 = (some .int) := rfl
theorem k236_s {E : AEn} {hi : AHi} {hr : AHr} {n : Nat} {Q : ARs → Prop} (x0 : Nat) (x1 : Int32) (x2 : Int32) (x3 : Int32) (x4 : Int32) : Sp E 236 [.ref x0, .int x1, .int x2, .int x3, .int x4] hi hr n Q ↔ Tm E 236 (a_bl 236 0) [.ref x0, .int x1, .int x2, .int x3, .int x4, a_mk, a_mk, a_mk, a_mk, a_mk, a_mk] [] hi hr n Q := Iff.rfl
theorem K236 : (type_of% k236_0) ∧ (type_of% k236_1) ∧ (type_of% k236_2) ∧ (type_of% k236_5) ∧ (type_of% k236_6) ∧ (type_of% k236_7) ∧ (type_of% k236_8) ∧ (type_of% k236_9) ∧ (type_of% k236_10) ∧ (type_of% k236_13) ∧ (type_of% k236_14) ∧ (type_of% k236_r) ∧ (type_of% @k236_s) := ⟨k236_0, k236_1, k236_2, k236_5, k236_6, k236_7, k236_8, k236_9, k236_10, k236_13, k236_14, k236_r, @k236_s⟩
theorem c236 {m : Nat} {is : List AOp} {ls st : List Value} {E : AEn} {hi : AHi} {hr : AHr} {n : Nat} {Q : ARs → Prop} (x0 : Nat) (x1 : Int32) (x2 : Int32) (x3 : Int32) (x4 : Int32) : Tm E m (o_call 236 :: is) ls (.int x4 :: .int x3 :: .int x2 :: .int x1 :: .ref x0 :: st) hi hr n Q ↔ (a_kd x0 = 11 ∧ x0 < n ∧ st.length ≤ 4) ∧ Sp E 236 [.ref x0, .int x1, .int x2, .int x3, .int x4] hi hr n (fun r => Tm E m is ls (r.1.toList ++ st) r.2.1 r.2.2.1 r.2.2.2 Q) := T_cI [.int x1, .int x2, .int x3, .int x4] rfl rfl rfl rfl
/-! CartoonHouseModel.isPixel(II)Z -/
theorem k237_0 : a_bl 237 0 = [o_il 0, o_I (J 0), o_I (J 47), o_call 219, o_if 0 1, o_il 1, o_I (J 0), o_I (J 31), o_call 219, o_if 0 1, o_I (J 1), o_goto 2] := rfl
theorem k237_1 : a_bl 237 1 = [o_I (J 0), o_ft 2] := rfl
theorem k237_2 : a_bl 237 2 = [o_ret 1] := rfl
theorem k237_r : a_rt 237 = (some .boolean) := rfl
theorem k237_s {E : AEn} {hi : AHi} {hr : AHr} {n : Nat} {Q : ARs → Prop} (x0 : Int32) (x1 : Int32) : Sp E 237 [.int x0, .int x1] hi hr n Q ↔ Tm E 237 (a_bl 237 0) [.int x0, .int x1] [] hi hr n Q := Iff.rfl
theorem K237 : (type_of% k237_0) ∧ (type_of% k237_1) ∧ (type_of% k237_2) ∧ (type_of% k237_r) ∧ (type_of% @k237_s) := ⟨k237_0, k237_1, k237_2, k237_r, @k237_s⟩
theorem c237 {m : Nat} {is : List AOp} {ls st : List Value} {E : AEn} {hi : AHi} {hr : AHr} {n : Nat} {Q : ARs → Prop} (x0 : Int32) (x1 : Int32) : Tm E m (o_call 237 :: is) ls (.int x1 :: .int x0 :: st) hi hr n Q ↔ st.length ≤ 4 ∧ Sp E 237 [.int x0, .int x1] hi hr n (fun r => Tm E m is ls (r.1.toList ++ st) r.2.1 r.2.2.1 r.2.2.2 Q) := T_cS [.int x0, .int x1] rfl rfl
/-! CartoonHouseModel.isNear(IIIIIII)Z -/
theorem k238_0 : a_bl 238 0 = [o_I (J 0), o_is 8, o_il 1, o_il 2, o_il 3, o_il 4, o_call 239, o_is 9, o_I (J 0), o_is 10, o_ft 1] := rfl
theorem k238_1 : a_bl 238 1 = [o_il 10, o_il 9, o_ic 4 5, o_al 0, o_il 1, o_il 2, o_il 3, o_il 4, o_il 10, o_call 242, o_il 8, o_if 1 2, o_al 0, o_getI 11 16, o_il 5, o_bin 1, o_call 240, o_il 7, o_ic 4 3, o_al 0, o_getI 11 17, o_il 6, o_bin 1, o_call 240, o_il 7, o_ic 4 3, o_ft 2] := rfl
theorem k238_2 : a_bl 238 2 = [o_I (J 1), o_goto 4] := rfl
theorem k238_3 : a_bl 238 3 = [o_I (J 0), o_ft 4] := rfl
theorem k238_4 : a_bl 238 4 = [o_is 8, o_iinc 10 (J 1), o_goto 1] := rfl
theorem k238_5 : a_bl 238 5 = [o_il 8, o_ret 1] := rfl
theorem k238_r : a_rt 238 = (some .boolean) := rfl
theorem k238_s {E : AEn} {hi : AHi} {hr : AHr} {n : Nat} {Q : ARs → Prop} (x0 : Nat) (x1 : Int32) (x2 : Int32) (x3 : Int32) (x4 : Int32) (x5 : Int32) (x6 : Int32) (x7 : Int32) : Sp E 238 [.ref x0, .int x1, .int x2, .int x3, .int x4, .int x5, .int x6, .int x7] hi hr n Q ↔ Tm E 238 (a_bl 238 0) [.ref x0, .int x1, .int x2, .int x3, .int x4, .int x5, .int x6, .int x7, a_mk, a_mk, a_mk] [] hi hr n Q := Iff.rfl
theorem K238 : (type_of% k238_0) ∧ (type_of% k238_2) ∧ (type_of% k238_3) ∧ (type_of% k238_4) ∧ (type_of% k238_5) ∧ (type_of% k238_r) ∧ (type_of% @k238_s) := ⟨k238_0, k238_2, k238_3, k238_4, k238_5, k238_r, @k238_s⟩
theorem c238 {m : Nat} {is : List AOp} {ls st : List Value} {E : AEn} {hi : AHi} {hr : AHr} {n : Nat} {Q : ARs → Prop} (x0 : Nat) (x1 : Int32) (x2 : Int32) (x3 : Int32) (x4 : Int32) (x5 : Int32) (x6 : Int32) (x7 : Int32) : Tm E m (o_call 238 :: is) ls (.int x7 :: .int x6 :: .int x5 :: .int x4 :: .int x3 :: .int x2 :: .int x1 :: .ref x0 :: st) hi hr n Q ↔ (a_kd x0 = 11 ∧ x0 < n ∧ st.length ≤ 4) ∧ Sp E 238 [.ref x0, .int x1, .int x2, .int x3, .int x4, .int x5, .int x6, .int x7] hi hr n (fun r => Tm E m is ls (r.1.toList ++ st) r.2.1 r.2.2.1 r.2.2.2 Q) := T_cI [.int x1, .int x2, .int x3, .int x4, .int x5, .int x6, .int x7] rfl rfl rfl rfl
/-! CartoonHouseModel.steps(IIII)I -/
theorem k239_0 : a_bl 239 0 = [o_il 2, o_il 0, o_bin 1, o_call 240, o_il 3, o_il 1, o_bin 1, o_call 240, o_call 241, o_ret 1] := rfl
theorem k239_r : a_rt 239 = (some .int) := rfl
theorem k239_s {E : AEn} {hi : AHi} {hr : AHr} {n : Nat} {Q : ARs → Prop} (x0 : Int32) (x1 : Int32) (x2 : Int32) (x3 : Int32) : Sp E 239 [.int x0, .int x1, .int x2, .int x3] hi hr n Q ↔ Tm E 239 (a_bl 239 0) [.int x0, .int x1, .int x2, .int x3] [] hi hr n Q := Iff.rfl
theorem K239 : (type_of% k239_0) ∧ (type_of% k239_r) ∧ (type_of% @k239_s) := ⟨k239_0, k239_r, @k239_s⟩
theorem c239 {m : Nat} {is : List AOp} {ls st : List Value} {E : AEn} {hi : AHi} {hr : AHr} {n : Nat} {Q : ARs → Prop} (x0 : Int32) (x1 : Int32) (x2 : Int32) (x3 : Int32) : Tm E m (o_call 239 :: is) ls (.int x3 :: .int x2 :: .int x1 :: .int x0 :: st) hi hr n Q ↔ st.length ≤ 4 ∧ Sp E 239 [.int x0, .int x1, .int x2, .int x3] hi hr n (fun r => Tm E m is ls (r.1.toList ++ st) r.2.1 r.2.2.1 r.2.2.2 Q) := T_cS [.int x0, .int x1, .int x2, .int x3] rfl rfl
/-! CartoonHouseModel.far(I)I -/
theorem k240_0 : a_bl 240 0 = [o_il 0, o_if 3 1, o_il 0, o_un 0, o_goto 2] := rfl
theorem k240_1 : a_bl 240 1 = [o_il 0, o_ft 2] := rfl
theorem k240_2 : a_bl 240 2 = [o_ret 1] := rfl
theorem k240_r : a_rt 240 = (some .int) := rfl
theorem k240_s {E : AEn} {hi : AHi} {hr : AHr} {n : Nat} {Q : ARs → Prop} (x0 : Int32) : Sp E 240 [.int x0] hi hr n Q ↔ Tm E 240 (a_bl 240 0) [.int x0] [] hi hr n Q := Iff.rfl
theorem K240 : (type_of% k240_0) ∧ (type_of% k240_1) ∧ (type_of% k240_2) ∧ (type_of% k240_r) ∧ (type_of% @k240_s) := ⟨k240_0, k240_1, k240_2, k240_r, @k240_s⟩
theorem c240 {m : Nat} {is : List AOp} {ls st : List Value} {E : AEn} {hi : AHi} {hr : AHr} {n : Nat} {Q : ARs → Prop} (x0 : Int32) : Tm E m (o_call 240 :: is) ls (.int x0 :: st) hi hr n Q ↔ st.length ≤ 4 ∧ Sp E 240 [.int x0] hi hr n (fun r => Tm E m is ls (r.1.toList ++ st) r.2.1 r.2.2.1 r.2.2.2 Q) := T_cS [.int x0] rfl rfl
/-! CartoonHouseModel.more(II)I -/
theorem k241_0 : a_bl 241 0 = [o_il 0, o_il 1, o_ic 5 1, o_il 0, o_goto 2] := rfl
theorem k241_1 : a_bl 241 1 = [o_il 1, o_ft 2] := rfl
theorem k241_2 : a_bl 241 2 = [o_ret 1] := rfl
theorem k241_r : a_rt 241 = (some .int) := rfl
theorem k241_s {E : AEn} {hi : AHi} {hr : AHr} {n : Nat} {Q : ARs → Prop} (x0 : Int32) (x1 : Int32) : Sp E 241 [.int x0, .int x1] hi hr n Q ↔ Tm E 241 (a_bl 241 0) [.int x0, .int x1] [] hi hr n Q := Iff.rfl
theorem K241 : (type_of% k241_0) ∧ (type_of% k241_1) ∧ (type_of% k241_2) ∧ (type_of% k241_r) ∧ (type_of% @k241_s) := ⟨k241_0, k241_1, k241_2, k241_r, @k241_s⟩
theorem c241 {m : Nat} {is : List AOp} {ls st : List Value} {E : AEn} {hi : AHi} {hr : AHr} {n : Nat} {Q : ARs → Prop} (x0 : Int32) (x1 : Int32) : Tm E m (o_call 241 :: is) ls (.int x1 :: .int x0 :: st) hi hr n Q ↔ st.length ≤ 4 ∧ Sp E 241 [.int x0, .int x1] hi hr n (fun r => Tm E m is ls (r.1.toList ++ st) r.2.1 r.2.2.1 r.2.2.2 Q) := T_cS [.int x0, .int x1] rfl rfl
/-! CartoonHouseModel.linePixel(IIIII)V -/
theorem k242_0 : a_bl 242 0 = [o_il 1, o_il 2, o_il 3, o_il 4, o_call 239, o_is 6, o_al 0, o_il 6, o_if 1 1, o_il 1, o_goto 2] := rfl
theorem k242_1 : a_bl 242 1 = [o_il 1, o_il 5, o_un 1, o_il 3, o_il 1, o_bin 1, o_un 1, o_binL 2, o_il 6, o_un 1, o_call 243, o_bin 0, o_ft 2] := rfl
theorem k242_2 : a_bl 242 2 = [o_putI 11 16, o_al 0, o_il 6, o_if 1 3, o_il 2, o_goto 4] := rfl
theorem k242_3 : a_bl 242 3 = [o_il 2, o_il 5, o_un 1, o_il 4, o_il 2, o_bin 1, o_un 1, o_binL 2, o_il 6, o_un 1, o_call 243, o_bin 0, o_ft 4] := rfl
theorem k242_4 : a_bl 242 4 = [o_putI 11 17, o_ret 0] := rfl
theorem k242_r : a_rt 242 = none := rfl
theorem k242_s {E : AEn} {hi : AHi} {hr : AHr} {n : Nat} {Q : ARs → Prop} (x0 : Nat) (x1 : Int32) (x2 : Int32) (x3 : Int32) (x4 : Int32) (x5 : Int32) : Sp E 242 [.ref x0, .int x1, .int x2, .int x3, .int x4, .int x5] hi hr n Q ↔ Tm E 242 (a_bl 242 0) [.ref x0, .int x1, .int x2, .int x3, .int x4, .int x5, a_mk] [] hi hr n Q := Iff.rfl
theorem K242 : (type_of% k242_0) ∧ (type_of% k242_1) ∧ (type_of% k242_2) ∧ (type_of% k242_3) ∧ (type_of% k242_4) ∧ (type_of% k242_r) ∧ (type_of% @k242_s) := ⟨k242_0, k242_1, k242_2, k242_3, k242_4, k242_r, @k242_s⟩
theorem c242 {m : Nat} {is : List AOp} {ls st : List Value} {E : AEn} {hi : AHi} {hr : AHr} {n : Nat} {Q : ARs → Prop} (x0 : Nat) (x1 : Int32) (x2 : Int32) (x3 : Int32) (x4 : Int32) (x5 : Int32) : Tm E m (o_call 242 :: is) ls (.int x5 :: .int x4 :: .int x3 :: .int x2 :: .int x1 :: .ref x0 :: st) hi hr n Q ↔ (a_kd x0 = 11 ∧ x0 < n ∧ st.length ≤ 4) ∧ Sp E 242 [.ref x0, .int x1, .int x2, .int x3, .int x4, .int x5] hi hr n (fun r => Tm E m is ls (r.1.toList ++ st) r.2.1 r.2.2.1 r.2.2.2 Q) := T_cI [.int x1, .int x2, .int x3, .int x4, .int x5] rfl rfl rfl rfl
/-! CartoonHouseModel.round(JJ)I -/
theorem k243_0 : a_bl 243 0 = [o_L (L 2), o_ll 0, o_binL 2, o_ll 2, o_binL 0, o_L (L 2), o_ll 2, o_binL 2, o_call 244, o_un 2, o_ret 1] := rfl
theorem k243_r : a_rt 243 = (some .int) := rfl
theorem k243_s {E : AEn} {hi : AHi} {hr : AHr} {n : Nat} {Q : ARs → Prop} (x0 : Int64) (x1 : Int64) : Sp E 243 [.long x0, .long x1] hi hr n Q ↔ Tm E 243 (a_bl 243 0) [.long x0, a_mk, .long x1, a_mk] [] hi hr n Q := Iff.rfl
theorem K243 : (type_of% k243_0) ∧ (type_of% k243_r) ∧ (type_of% @k243_s) := ⟨k243_0, k243_r, @k243_s⟩
theorem c243 {m : Nat} {is : List AOp} {ls st : List Value} {E : AEn} {hi : AHi} {hr : AHr} {n : Nat} {Q : ARs → Prop} (x0 : Int64) (x1 : Int64) : Tm E m (o_call 243 :: is) ls (.long x1 :: .long x0 :: st) hi hr n Q ↔ st.length ≤ 4 ∧ Sp E 243 [.long x0, .long x1] hi hr n (fun r => Tm E m is ls (r.1.toList ++ st) r.2.1 r.2.2.1 r.2.2.2 Q) := T_cS [.long x0, .long x1] rfl rfl
/-! CartoonHouseModel.div(JJ)J -/
theorem k244_0 : a_bl 244 0 = [o_ll 0, o_ll 2, o_binL 3, o_lst 4, o_ll 0, o_ll 2, o_binL 4, o_L (L 0), o_binL 5, o_if 0 5, o_ll 0, o_L (L 0), o_binL 5, o_if 3 1, o_I (J 1), o_goto 2] := rfl
theorem k244_1 : a_bl 244 1 = [o_I (J 0), o_ft 2] := rfl
theorem k244_2 : a_bl 244 2 = [o_ll 2, o_L (L 0), o_binL 5, o_if 3 3, o_I (J 1), o_goto 4] := rfl
theorem k244_3 : a_bl 244 3 = [o_I (J 0), o_ft 4] := rfl
theorem k244_4 : a_bl 244 4 = [o_ic 0 5, o_ll 4, o_L (L 1), o_binL 1, o_goto 6] := rfl
theorem k244_5 : a_bl 244 5 = [o_ll 4, o_ft 6] := rfl
theorem k244_6 : a_bl 244 6 = [o_ret 2] := rfl
theorem k244_r : a_rt 244 = (some .long) := rfl
theorem k244_s {E : AEn} {hi : AHi} {hr : AHr} {n : Nat} {Q : ARs → Prop} (x0 : Int64) (x1 : Int64) : Sp E 244 [.long x0, .long x1] hi hr n Q ↔ Tm E 244 (a_bl 244 0) [.long x0, a_mk, .long x1, a_mk, a_mk, a_mk] [] hi hr n Q := Iff.rfl
theorem K244 : (type_of% k244_0) ∧ (type_of% k244_1) ∧ (type_of% k244_2) ∧ (type_of% k244_3) ∧ (type_of% k244_4) ∧ (type_of% k244_5) ∧ (type_of% k244_6) ∧ (type_of% k244_r) ∧ (type_of% @k244_s) := ⟨k244_0, k244_1, k244_2, k244_3, k244_4, k244_5, k244_6, k244_r, @k244_s⟩
theorem c244 {m : Nat} {is : List AOp} {ls st : List Value} {E : AEn} {hi : AHi} {hr : AHr} {n : Nat} {Q : ARs → Prop} (x0 : Int64) (x1 : Int64) : Tm E m (o_call 244 :: is) ls (.long x1 :: .long x0 :: st) hi hr n Q ↔ st.length ≤ 4 ∧ Sp E 244 [.long x0, .long x1] hi hr n (fun r => Tm E m is ls (r.1.toList ++ st) r.2.1 r.2.2.1 r.2.2.2 Q) := T_cS [.long x0, .long x1] rfl rfl
/-! CartoonHouseModel.meets(III)I -/
theorem k245_0 : a_bl 245 0 = [o_al 0, o_il 1, o_il 2, o_call 229, o_if 0 1, o_al 0, o_il 1, o_il 3, o_call 229, o_if 0 1, o_il 2, o_il 3, o_ic 1 2, o_ft 1] := rfl
theorem k245_1 : a_bl 245 1 = [o_I (J (-1)), o_ret 1] := rfl
theorem k245_2 : a_bl 245 2 = [o_I (J 8), o_il 1, o_bin 2, o_il 2, o_bin 0, o_is 4, o_I (J 8), o_il 1, o_bin 2, o_il 3, o_bin 0, o_is 5, o_I (J 0), o_is 6, o_I (J 0), o_is 7, o_ft 3] := rfl
theorem k245_3 : a_bl 245 3 = [o_il 7, o_al 0, o_getR 11 10, o_il 4, o_iald, o_I (J 1), o_bin 1, o_ic 3 8, o_I (J 0), o_is 8, o_ft 4] := rfl
theorem k245_4 : a_bl 245 4 = [o_il 8, o_al 0, o_getR 11 10, o_il 5, o_iald, o_I (J 1), o_bin 1, o_ic 3 7, o_il 6, o_al 0, o_I (J 10), o_il 4, o_bin 2, o_il 7, o_bin 0, o_I (J 10), o_il 5, o_bin 2, o_il 8, o_bin 0, o_call 246, o_if 0 5, o_I (J 1), o_goto 6] := rfl
theorem k245_5 : a_bl 245 5 = [o_I (J 0), o_ft 6] := rfl
theorem k245_6 : a_bl 245 6 = [o_bin 0, o_is 6, o_iinc 8 (J 1), o_goto 4] := rfl
theorem k245_7 : a_bl 245 7 = [o_iinc 7 (J 1), o_goto 3] := rfl
theorem k245_8 : a_bl 245 8 = [o_il 6, o_ret 1] := rfl
theorem k245_r : a_rt 245 = (some .int) := rfl
theorem k245_s {E : AEn} {hi : AHi} {hr : AHr} {n : Nat} {Q : ARs → Prop} (x0 : Nat) (x1 : Int32) (x2 : Int32) (x3 : Int32) : Sp E 245 [.ref x0, .int x1, .int x2, .int x3] hi hr n Q ↔ Tm E 245 (a_bl 245 0) [.ref x0, .int x1, .int x2, .int x3, a_mk, a_mk, a_mk, a_mk, a_mk] [] hi hr n Q := Iff.rfl
theorem K245 : (type_of% k245_0) ∧ (type_of% k245_1) ∧ (type_of% k245_2) ∧ (type_of% k245_5) ∧ (type_of% k245_6) ∧ (type_of% k245_7) ∧ (type_of% k245_8) ∧ (type_of% k245_r) ∧ (type_of% @k245_s) := ⟨k245_0, k245_1, k245_2, k245_5, k245_6, k245_7, k245_8, k245_r, @k245_s⟩
theorem c245 {m : Nat} {is : List AOp} {ls st : List Value} {E : AEn} {hi : AHi} {hr : AHr} {n : Nat} {Q : ARs → Prop} (x0 : Nat) (x1 : Int32) (x2 : Int32) (x3 : Int32) : Tm E m (o_call 245 :: is) ls (.int x3 :: .int x2 :: .int x1 :: .ref x0 :: st) hi hr n Q ↔ (a_kd x0 = 11 ∧ x0 < n ∧ st.length ≤ 4) ∧ Sp E 245 [.ref x0, .int x1, .int x2, .int x3] hi hr n (fun r => Tm E m is ls (r.1.toList ++ st) r.2.1 r.2.2.1 r.2.2.2 Q) := T_cI [.int x1, .int x2, .int x3] rfl rfl rfl rfl
/-! CartoonHouseModel.areMet(II)Z -/
theorem k246_0 : a_bl 246 0 = [o_al 0, o_getR 11 11, o_il 1, o_iald, o_is 3, o_al 0, o_getR 11 12, o_il 1, o_iald, o_is 4, o_al 0, o_getR 11 11, o_il 1, o_I (J 1), o_bin 0, o_iald, o_is 5, o_al 0, o_getR 11 12, o_il 1, o_I (J 1), o_bin 0, o_iald, o_is 6, o_al 0, o_getR 11 11, o_il 2, o_iald, o_is 7, o_al 0, o_getR 11 12, o_il 2, o_iald, o_is 8, o_al 0, o_getR 11 11, o_il 2, o_I (J 1), o_bin 0, o_iald, o_is 9, o_al 0, o_getR 11 12, o_il 2, o_I (J 1), o_bin 0, o_iald, o_is 10, o_il 3, o_il 4, o_il 5, o_il 6, o_il 7, o_il 8, o_call 247, o_is 11, o_il 3, o_il 4, o_il 5, o_il 6, o_il 9, o_il 10, o_call 247, o_is 12, o_il 7, o_il 8, o_il 9, o_il 10, o_il 3, o_il 4, o_call 247, o_is 13, o_il 7, o_il 8, o_il 9, o_il 10, o_il 5, o_il 6, o_call 247, o_is 14, o_il 11, o_il 12, o_bin 2, o_if 3 1, o_il 13, o_il 14, o_bin 2, o_if 3 1, o_I (J 1), o_goto 2] := rfl
theorem k246_1 : a_bl 246 1 = [o_I (J 0), o_ft 2] := rfl
theorem k246_2 : a_bl 246 2 = [o_is 15, o_il 11, o_if 1 3, o_il 3, o_il 4, o_il 5, o_il 6, o_il 7, o_il 8, o_call 248, o_if 1 4, o_ft 3] := rfl
theorem k246_3 : a_bl 246 3 = [o_il 12, o_if 1 5, o_il 3, o_il 4, o_il 5, o_il 6, o_il 9, o_il 10, o_call 248, o_if 0 5, o_ft 4] := rfl
theorem k246_4 : a_bl 246 4 = [o_I (J 1), o_goto 6] := rfl
theorem k246_5 : a_bl 246 5 = [o_I (J 0), o_ft 6] := rfl
theorem k246_6 : a_bl 246 6 = [o_is 16, o_il 15, o_if 1 8, o_il 16, o_if 1 8, o_il 13, o_if 1 7, o_il 7, o_il 8, o_il 9, o_il 10, o_il 3, o_il 4, o_call 248, o_if 1 8, o_ft 7] := rfl
theorem k246_7 : a_bl 246 7 = [o_il 14, o_if 1 9, o_il 7, o_il 8, o_il 9, o_il 10, o_il 5, o_il 6, o_call 248, o_if 0 9, o_ft 8] := rfl
theorem k246_8 : a_bl 246 8 = [o_I (J 1), o_goto 10] := rfl
theorem k246_9 : a_bl 246 9 = [o_I (J 0), o_ft 10] := rfl
theorem k246_10 : a_bl 246 10 = [o_ret 1] := rfl
theorem k246_r : a_rt 246 = (some .boolean) := rfl
theorem k246_s {E : AEn} {hi : AHi} {hr : AHr} {n : Nat} {Q : ARs → Prop} (x0 : Nat) (x1 : Int32) (x2 : Int32) : Sp E 246 [.ref x0, .int x1, .int x2] hi hr n Q ↔ Tm E 246 (a_bl 246 0) [.ref x0, .int x1, .int x2, a_mk, a_mk, a_mk, a_mk, a_mk, a_mk, a_mk, a_mk, a_mk, a_mk, a_mk, a_mk, a_mk, a_mk] [] hi hr n Q := Iff.rfl
theorem K246 : (type_of% k246_0) ∧ (type_of% k246_1) ∧ (type_of% k246_2) ∧ (type_of% k246_3) ∧ (type_of% k246_4) ∧ (type_of% k246_5) ∧ (type_of% k246_6) ∧ (type_of% k246_7) ∧ (type_of% k246_8) ∧ (type_of% k246_9) ∧ (type_of% k246_10) ∧ (type_of% k246_r) ∧ (type_of% @k246_s) := ⟨k246_0, k246_1, k246_2, k246_3, k246_4, k246_5, k246_6, k246_7, k246_8, k246_9, k246_10, k246_r, @k246_s⟩
theorem c246 {m : Nat} {is : List AOp} {ls st : List Value} {E : AEn} {hi : AHi} {hr : AHr} {n : Nat} {Q : ARs → Prop} (x0 : Nat) (x1 : Int32) (x2 : Int32) : Tm E m (o_call 246 :: is) ls (.int x2 :: .int x1 :: .ref x0 :: st) hi hr n Q ↔ (a_kd x0 = 11 ∧ x0 < n ∧ st.length ≤ 4) ∧ Sp E 246 [.ref x0, .int x1, .int x2] hi hr n (fun r => Tm E m is ls (r.1.toList ++ st) r.2.1 r.2.2.1 r.2.2.2 Q) := T_cI [.int x1, .int x2] rfl rfl rfl rfl
/-! CartoonHouseModel.turn(IIIIII)I -/
theorem k247_0 : a_bl 247 0 = [o_il 2, o_il 0, o_bin 1, o_il 5, o_il 1, o_bin 1, o_bin 2, o_il 3, o_il 1, o_bin 1, o_il 4, o_il 0, o_bin 1, o_bin 2, o_bin 1, o_is 6, o_il 6, o_if 5 1, o_I (J 1), o_goto 3] := rfl
theorem k247_1 : a_bl 247 1 = [o_il 6, o_if 3 2, o_I (J (-1)), o_goto 3] := rfl
theorem k247_2 : a_bl 247 2 = [o_I (J 0), o_ft 3] := rfl
theorem k247_3 : a_bl 247 3 = [o_ret 1] := rfl
theorem k247_r : a_rt 247 = (some .int) := rfl
theorem k247_s {E : AEn} {hi : AHi} {hr : AHr} {n : Nat} {Q : ARs → Prop} (x0 : Int32) (x1 : Int32) (x2 : Int32) (x3 : Int32) (x4 : Int32) (x5 : Int32) : Sp E 247 [.int x0, .int x1, .int x2, .int x3, .int x4, .int x5] hi hr n Q ↔ Tm E 247 (a_bl 247 0) [.int x0, .int x1, .int x2, .int x3, .int x4, .int x5, a_mk] [] hi hr n Q := Iff.rfl
theorem K247 : (type_of% k247_0) ∧ (type_of% k247_1) ∧ (type_of% k247_2) ∧ (type_of% k247_3) ∧ (type_of% k247_r) ∧ (type_of% @k247_s) := ⟨k247_0, k247_1, k247_2, k247_3, k247_r, @k247_s⟩
theorem c247 {m : Nat} {is : List AOp} {ls st : List Value} {E : AEn} {hi : AHi} {hr : AHr} {n : Nat} {Q : ARs → Prop} (x0 : Int32) (x1 : Int32) (x2 : Int32) (x3 : Int32) (x4 : Int32) (x5 : Int32) : Tm E m (o_call 247 :: is) ls (.int x5 :: .int x4 :: .int x3 :: .int x2 :: .int x1 :: .int x0 :: st) hi hr n Q ↔ st.length ≤ 4 ∧ Sp E 247 [.int x0, .int x1, .int x2, .int x3, .int x4, .int x5] hi hr n (fun r => Tm E m is ls (r.1.toList ++ st) r.2.1 r.2.2.1 r.2.2.2 Q) := T_cS [.int x0, .int x1, .int x2, .int x3, .int x4, .int x5] rfl rfl
/-! CartoonHouseModel.isBetween(IIIIII)Z -/
theorem k248_0 : a_bl 248 0 = [o_il 4, o_il 0, o_il 2, o_ic 3 1, o_il 0, o_goto 2] := rfl
theorem k248_1 : a_bl 248 1 = [o_il 2, o_ft 2] := rfl
theorem k248_2 : a_bl 248 2 = [o_ic 2 5, o_il 4, o_il 0, o_il 2, o_call 241, o_ic 4 5, o_il 5, o_il 1, o_il 3, o_ic 3 3, o_il 1, o_goto 4] := rfl
theorem k248_3 : a_bl 248 3 = [o_il 3, o_ft 4] := rfl
theorem k248_4 : a_bl 248 4 = [o_ic 2 5, o_il 5, o_il 1, o_il 3, o_call 241, o_ic 4 5, o_I (J 1), o_goto 6] := rfl
theorem k248_5 : a_bl 248 5 = [o_I (J 0), o_ft 6] := rfl
theorem k248_6 : a_bl 248 6 = [o_ret 1] := rfl
theorem k248_r : a_rt 248 = (some .boolean) := rfl
theorem k248_s {E : AEn} {hi : AHi} {hr : AHr} {n : Nat} {Q : ARs → Prop} (x0 : Int32) (x1 : Int32) (x2 : Int32) (x3 : Int32) (x4 : Int32) (x5 : Int32) : Sp E 248 [.int x0, .int x1, .int x2, .int x3, .int x4, .int x5] hi hr n Q ↔ Tm E 248 (a_bl 248 0) [.int x0, .int x1, .int x2, .int x3, .int x4, .int x5] [] hi hr n Q := Iff.rfl
theorem K248 : (type_of% k248_0) ∧ (type_of% k248_1) ∧ (type_of% k248_2) ∧ (type_of% k248_3) ∧ (type_of% k248_4) ∧ (type_of% k248_5) ∧ (type_of% k248_6) ∧ (type_of% k248_r) ∧ (type_of% @k248_s) := ⟨k248_0, k248_1, k248_2, k248_3, k248_4, k248_5, k248_6, k248_r, @k248_s⟩
theorem c248 {m : Nat} {is : List AOp} {ls st : List Value} {E : AEn} {hi : AHi} {hr : AHr} {n : Nat} {Q : ARs → Prop} (x0 : Int32) (x1 : Int32) (x2 : Int32) (x3 : Int32) (x4 : Int32) (x5 : Int32) : Tm E m (o_call 248 :: is) ls (.int x5 :: .int x4 :: .int x3 :: .int x2 :: .int x1 :: .int x0 :: st) hi hr n Q ↔ st.length ≤ 4 ∧ Sp E 248 [.int x0, .int x1, .int x2, .int x3, .int x4, .int x5] hi hr n (fun r => Tm E m is ls (r.1.toList ++ st) r.2.1 r.2.2.1 r.2.2.2 Q) := T_cS [.int x0, .int x1, .int x2, .int x3, .int x4, .int x5] rfl rfl
/-! CartoonHouseModel.area(II)I -/
theorem k249_0 : a_bl 249 0 = [o_al 0, o_il 1, o_il 2, o_call 229, o_if 1 1, o_I (J (-1000000)), o_ret 1] := rfl
theorem k249_1 : a_bl 249 1 = [o_I (J 8), o_il 1, o_bin 2, o_il 2, o_bin 0, o_is 3, o_I (J 0), o_is 4, o_I (J 0), o_is 5, o_ft 2] := rfl
theorem k249_2 : a_bl 249 2 = [o_il 5, o_al 0, o_getR 11 10, o_il 3, o_iald, o_ic 3 5, o_il 5, o_I (J 1), o_bin 0, o_al 0, o_getR 11 10, o_il 3, o_iald, o_ic 3 3, o_il 5, o_I (J 1), o_bin 0, o_goto 4] := rfl
theorem k249_3 : a_bl 249 3 = [o_I (J 0), o_ft 4] := rfl
theorem k249_4 : a_bl 249 4 = [o_is 6, o_il 4, o_al 0, o_getR 11 11, o_I (J 10), o_il 3, o_bin 2, o_il 5, o_bin 0, o_iald, o_al 0, o_getR 11 12, o_I (J 10), o_il 3, o_bin 2, o_il 6, o_bin 0, o_iald, o_bin 2, o_al 0, o_getR 11 11, o_I (J 10), o_il 3, o_bin 2, o_il 6, o_bin 0, o_iald, o_al 0, o_getR 11 12, o_I (J 10), o_il 3, o_bin 2, o_il 5, o_bin 0, o_iald, o_bin 2, o_bin 1, o_bin 0, o_is 4, o_iinc 5 (J 1), o_goto 2] := rfl
theorem k249_5 : a_bl 249 5 = [o_il 4, o_ret 1] := rfl
theorem k249_r : a_rt 249 = (some .int) := rfl
theorem k249_s {E : AEn} {hi : AHi} {hr : AHr} {n : Nat} {Q : ARs → Prop} (x0 : Nat) (x1 : Int32) (x2 : Int32) : Sp E 249 [.ref x0, .int x1, .int x2] hi hr n Q ↔ Tm E 249 (a_bl 249 0) [.ref x0, .int x1, .int x2, a_mk, a_mk, a_mk, a_mk] [] hi hr n Q := Iff.rfl
theorem K249 : (type_of% k249_0) ∧ (type_of% k249_1) ∧ (type_of% k249_3) ∧ (type_of% k249_4) ∧ (type_of% k249_5) ∧ (type_of% k249_r) ∧ (type_of% @k249_s) := ⟨k249_0, k249_1, k249_3, k249_4, k249_5, k249_r, @k249_s⟩
theorem c249 {m : Nat} {is : List AOp} {ls st : List Value} {E : AEn} {hi : AHi} {hr : AHr} {n : Nat} {Q : ARs → Prop} (x0 : Nat) (x1 : Int32) (x2 : Int32) : Tm E m (o_call 249 :: is) ls (.int x2 :: .int x1 :: .ref x0 :: st) hi hr n Q ↔ (a_kd x0 = 11 ∧ x0 < n ∧ st.length ≤ 4) ∧ Sp E 249 [.ref x0, .int x1, .int x2] hi hr n (fun r => Tm E m is ls (r.1.toList ++ st) r.2.1 r.2.2.1 r.2.2.2 Q) := T_cI [.int x1, .int x2] rfl rfl rfl rfl
/-! CartoonHouseModel.fill(IIIII)I -/
theorem k250_0 : a_bl 250 0 = [o_il 1, o_call 218, o_if 0 1, o_il 2, o_il 3, o_call 237, o_if 0 1, o_il 4, o_I (J 0), o_I (J 8), o_call 219, o_if 0 1, o_il 5, o_I (J 1), o_I (J 15), o_call 219, o_if 1 2, o_ft 1] := rfl
theorem k250_1 : a_bl 250 1 = [o_I (J (-1)), o_ret 1] := rfl
theorem k250_2 : a_bl 250 2 = [o_al 0, o_getR 11 22, o_il 1, o_iald, o_I (J 6), o_ic 1 3, o_I (J (-4)), o_ret 1] := rfl
theorem k250_3 : a_bl 250 3 = [o_al 0, o_il 1, o_I (J (-1)), o_I (J 0), o_call 251, o_al 0, o_il 1, o_il 2, o_il 3, o_il 4, o_call 254, o_al 0, o_getI 11 36, o_if 1 4, o_I (J 0), o_ret 1] := rfl
theorem k250_4 : a_bl 250 4 = [o_al 0, o_getI 11 37, o_if 0 5, o_I (J (-5)), o_ret 1] := rfl
theorem k250_5 : a_bl 250 5 = [o_I (J 6), o_il 1, o_bin 2, o_al 0, o_getR 11 22, o_il 1, o_iald, o_bin 0, o_is 6, o_al 0, o_getR 11 23, o_il 6, o_il 2, o_iast, o_al 0, o_getR 11 24, o_il 6, o_il 3, o_iast, o_al 0, o_getR 11 25, o_il 6, o_il 4, o_iast, o_al 0, o_getR 11 26, o_il 6, o_il 5, o_iast, o_al 0, o_getR 11 22, o_il 1, o_dup2, o_iald, o_I (J 1), o_bin 0, o_iast, o_al 0, o_getI 11 36, o_ret 1] := rfl
theorem k250_r : a_rt 250 = (some .int) := rfl
theorem k250_s {E : AEn} {hi : AHi} {hr : AHr} {n : Nat} {Q : ARs → Prop} (x0 : Nat) (x1 : Int32) (x2 : Int32) (x3 : Int32) (x4 : Int32) (x5 : Int32) : Sp E 250 [.ref x0, .int x1, .int x2, .int x3, .int x4, .int x5] hi hr n Q ↔ Tm E 250 (a_bl 250 0) [.ref x0, .int x1, .int x2, .int x3, .int x4, .int x5, a_mk] [] hi hr n Q := Iff.rfl
theorem K250 : (type_of% k250_0) ∧ (type_of% k250_1) ∧ (type_of% k250_2) ∧ (type_of% k250_3) ∧ (type_of% k250_4) ∧ (type_of% k250_5) ∧ (type_of% k250_r) ∧ (type_of% @k250_s) := ⟨k250_0, k250_1, k250_2, k250_3, k250_4, k250_5, k250_r, @k250_s⟩
theorem c250 {m : Nat} {is : List AOp} {ls st : List Value} {E : AEn} {hi : AHi} {hr : AHr} {n : Nat} {Q : ARs → Prop} (x0 : Nat) (x1 : Int32) (x2 : Int32) (x3 : Int32) (x4 : Int32) (x5 : Int32) : Tm E m (o_call 250 :: is) ls (.int x5 :: .int x4 :: .int x3 :: .int x2 :: .int x1 :: .ref x0 :: st) hi hr n Q ↔ (a_kd x0 = 11 ∧ x0 < n ∧ st.length ≤ 4) ∧ Sp E 250 [.ref x0, .int x1, .int x2, .int x3, .int x4, .int x5] hi hr n (fun r => Tm E m is ls (r.1.toList ++ st) r.2.1 r.2.2.1 r.2.2.2 Q) := T_cI [.int x1, .int x2, .int x3, .int x4, .int x5] rfl rfl rfl rfl
