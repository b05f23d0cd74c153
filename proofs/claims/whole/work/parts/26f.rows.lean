/-! Rows of the blocks, by program (wip/whole/gen/emit_rows.py) -/
/-! CartoonHouseModel.isSmall(I)Z -/
theorem k300_0 : a_bl 300 0 = [o_il 0, o_I (J 97), o_ic 2 1, o_il 0, o_I (J 122), o_ic 4 1, o_I (J 1), o_goto 2] := rfl
theorem k300_1 : a_bl 300 1 = [o_I (J 0), o_ft 2] := rfl
theorem k300_2 : a_bl 300 2 = [o_ret 1] := rfl
theorem k300_r : a_rt 300 = (some .boolean) := rfl
theorem k300_s {E : AEn} {hi : AHi} {hr : AHr} {n : Nat} {Q : ARs → Prop} (x0 : Int32) : Sp E 300 [.int x0] hi hr n Q ↔ Tm E 300 (a_bl 300 0) [.int x0] [] hi hr n Q := Iff.rfl
theorem K300 : (type_of% k300_0) ∧ (type_of% k300_1) ∧ (type_of% k300_2) ∧ (type_of% k300_r) ∧ (type_of% @k300_s) := ⟨k300_0, k300_1, k300_2, k300_r, @k300_s⟩
theorem c300 {m : Nat} {is : List AOp} {ls st : List Value} {E : AEn} {hi : AHi} {hr : AHr} {n : Nat} {Q : ARs → Prop} (x0 : Int32) : Tm E m (o_call 300 :: is) ls (.int x0 :: st) hi hr n Q ↔ st.length ≤ 4 ∧ Sp E 300 [.int x0] hi hr n (fun r => Tm E m is ls (r.1.toList ++ st) r.2.1 r.2.2.1 r.2.2.2 Q) := T_cS [.int x0] rfl rfl
/-! CartoonHouseModel.letter(I)I -/
theorem k301_0 : a_bl 301 0 = [o_il 1, o_I (J 0), o_I (J 25), o_call 219, o_if 0 1, o_al 0, o_getR 11 63, o_il 1, o_iald, o_goto 2] := rfl
theorem k301_1 : a_bl 301 1 = [o_I (J (-1)), o_ft 2] := rfl
theorem k301_2 : a_bl 301 2 = [o_ret 1] := rfl
theorem k301_r : a_rt 301 = (some .int) := rfl
theorem k301_s {E : AEn} {hi : AHi} {hr : AHr} {n : Nat} {Q : ARs → Prop} (x0 : Nat) (x1 : Int32) : Sp E 301 [.ref x0, .int x1] hi hr n Q ↔ Tm E 301 (a_bl 301 0) [.ref x0, .int x1] [] hi hr n Q := Iff.rfl
theorem K301 : (type_of% k301_0) ∧ (type_of% k301_1) ∧ (type_of% k301_2) ∧ (type_of% k301_r) ∧ (type_of% @k301_s) := ⟨k301_0, k301_1, k301_2, k301_r, @k301_s⟩
theorem c301 {m : Nat} {is : List AOp} {ls st : List Value} {E : AEn} {hi : AHi} {hr : AHr} {n : Nat} {Q : ARs → Prop} (x0 : Nat) (x1 : Int32) : Tm E m (o_call 301 :: is) ls (.int x1 :: .ref x0 :: st) hi hr n Q ↔ (a_kd x0 = 11 ∧ x0 < n ∧ st.length ≤ 4) ∧ Sp E 301 [.ref x0, .int x1] hi hr n (fun r => Tm E m is ls (r.1.toList ++ st) r.2.1 r.2.2.1 r.2.2.2 Q) := T_cI [.int x1] rfl rfl rfl rfl
/-! CartoonHouseModel.speech()I -/
theorem k302_0 : a_bl 302 0 = [o_al 0, o_call 217, o_I (J 0), o_is 1, o_I (J 0), o_is 2, o_I (J 1), o_is 3, o_ft 1] := rfl
theorem k302_1 : a_bl 302 1 = [o_al 0, o_call 221, o_if 0 10, o_il 3, o_if 0 10, o_al 0, o_getI 11 4, o_is 4, o_I (J 0), o_is 5, o_al 0, o_call 222, o_call 300, o_if 0 2, o_al 0, o_getR 11 63, o_al 0, o_call 222, o_I (J 97), o_bin 1, o_iald, o_is 5, o_goto 3] := rfl
theorem k302_2 : a_bl 302 2 = [o_al 0, o_call 222, o_I (J 46), o_ic 0 3, o_al 0, o_al 0, o_getI 11 4, o_call 224, o_ft 3] := rfl
theorem k302_3 : a_bl 302 3 = [o_al 0, o_call 221, o_if 0 4, o_al 0, o_dup, o_getI 11 4, o_I (J 1), o_bin 0, o_putI 11 4, o_ft 4] := rfl
theorem k302_4 : a_bl 302 4 = [o_al 0, o_I (J 0), o_I (J 1), o_I (J 99), o_call 220, o_is 6, o_al 0, o_call 221, o_if 0 5, o_il 2, o_il 6, o_bin 0, o_I (J 120), o_ic 5 5, o_al 0, o_il 4, o_call 224, o_ft 5] := rfl
theorem k302_5 : a_bl 302 5 = [o_al 0, o_call 221, o_if 0 6, o_al 0, o_getR 11 68, o_il 1, o_il 5, o_iast, o_al 0, o_getR 11 69, o_il 1, o_il 6, o_iast, o_iinc 1 (J 1), o_il 2, o_il 6, o_bin 0, o_is 2, o_ft 6] := rfl
theorem k302_6 : a_bl 302 6 = [o_al 0, o_getI 11 4, o_al 0, o_getI 11 3, o_ic 3 7, o_I (J 1), o_goto 8] := rfl
theorem k302_7 : a_bl 302 7 = [o_I (J 0), o_ft 8] := rfl
theorem k302_8 : a_bl 302 8 = [o_is 3, o_il 3, o_if 0 9, o_al 0, o_I (J 32), o_call 225, o_ft 9] := rfl
theorem k302_9 : a_bl 302 9 = [o_goto 1] := rfl
theorem k302_10 : a_bl 302 10 = [o_al 0, o_call 221, o_if 1 11, o_al 0, o_call 226, o_ret 1] := rfl
theorem k302_11 : a_bl 302 11 = [o_al 0, o_il 1, o_call 303, o_is 1, o_ft 12] := rfl
theorem k302_12 : a_bl 302 12 = [o_il 1, o_I (J 1), o_ic 5 17, o_al 0, o_il 1, o_call 304, o_if 2 17, o_al 0, o_il 1, o_call 304, o_is 4, o_al 0, o_getR 11 69, o_il 4, o_il 1, o_I (J 1), o_bin 1, o_ic 3 13, o_il 4, o_I (J 1), o_bin 0, o_goto 14] := rfl
theorem k302_13 : a_bl 302 13 = [o_il 4, o_I (J 1), o_bin 1, o_ft 14] := rfl
theorem k302_14 : a_bl 302 14 = [o_dup2, o_iald, o_I (J 1), o_bin 0, o_iast, o_il 4, o_is 5, o_ft 15] := rfl
theorem k302_15 : a_bl 302 15 = [o_il 5, o_il 1, o_I (J 1), o_bin 1, o_ic 3 16, o_al 0, o_getR 11 68, o_il 5, o_al 0, o_getR 11 68, o_il 5, o_I (J 1), o_bin 0, o_iald, o_iast, o_al 0, o_getR 11 69, o_il 5, o_al 0, o_getR 11 69, o_il 5, o_I (J 1), o_bin 0, o_iald, o_iast, o_iinc 5 (J 1), o_goto 15] := rfl
theorem k302_16 : a_bl 302 16 = [o_al 0, o_il 1, o_I (J 1), o_bin 1, o_call 303, o_is 1, o_goto 12] := rfl
theorem k302_17 : a_bl 302 17 = [o_al 0, o_il 1, o_putI 11 65, o_I (J 0), o_is 4, o_ft 18] := rfl
theorem k302_18 : a_bl 302 18 = [o_il 4, o_il 1, o_ic 3 19, o_al 0, o_getR 11 66, o_il 4, o_al 0, o_getR 11 68, o_il 4, o_iald, o_iast, o_al 0, o_getR 11 67, o_il 4, o_al 0, o_getR 11 69, o_il 4, o_iald, o_iast, o_iinc 4 (J 1), o_goto 18] := rfl
theorem k302_19 : a_bl 302 19 = [o_il 1, o_ret 1] := rfl
theorem k302_r : a_rt 302 = (some .int) := rfl
theorem k302_s {E : AEn} {hi : AHi} {hr : AHr} {n : Nat} {Q : ARs → Prop} (x0 : Nat) : Sp E 302 [.ref x0] hi hr n Q ↔ Tm E 302 (a_bl 302 0) [.ref x0, a_mk, a_mk, a_mk, a_mk, a_mk, a_mk] [] hi hr n Q := Iff.rfl
theorem K302 : (type_of% k302_0) ∧ (type_of% k302_2) ∧ (type_of% k302_3) ∧ (type_of% k302_4) ∧ (type_of% k302_5) ∧ (type_of% k302_6) ∧ (type_of% k302_7) ∧ (type_of% k302_8) ∧ (type_of% k302_9) ∧ (type_of% k302_10) ∧ (type_of% k302_11) ∧ (type_of% k302_13) ∧ (type_of% k302_14) ∧ (type_of% k302_16) ∧ (type_of% k302_17) ∧ (type_of% k302_19) ∧ (type_of% k302_r) ∧ (type_of% @k302_s) := ⟨k302_0, k302_2, k302_3, k302_4, k302_5, k302_6, k302_7, k302_8, k302_9, k302_10, k302_11, k302_13, k302_14, k302_16, k302_17, k302_19, k302_r, @k302_s⟩
theorem c302 {m : Nat} {is : List AOp} {ls st : List Value} {E : AEn} {hi : AHi} {hr : AHr} {n : Nat} {Q : ARs → Prop} (x0 : Nat) : Tm E m (o_call 302 :: is) ls (.ref x0 :: st) hi hr n Q ↔ (a_kd x0 = 11 ∧ x0 < n ∧ st.length ≤ 4) ∧ Sp E 302 [.ref x0] hi hr n (fun r => Tm E m is ls (r.1.toList ++ st) r.2.1 r.2.2.1 r.2.2.2 Q) := T_cI [] rfl rfl rfl rfl
/-! CartoonHouseModel.joins(I)I -/
theorem k303_0 : a_bl 303 0 = [o_I (J 0), o_is 2, o_I (J 0), o_is 3, o_ft 1] := rfl
theorem k303_1 : a_bl 303 1 = [o_il 3, o_il 1, o_ic 3 4, o_il 2, o_if 5 2, o_al 0, o_getR 11 68, o_il 2, o_I (J 1), o_bin 1, o_iald, o_al 0, o_getR 11 68, o_il 3, o_iald, o_ic 1 2, o_al 0, o_getR 11 69, o_il 2, o_I (J 1), o_bin 1, o_dup2, o_iald, o_al 0, o_getR 11 69, o_il 3, o_iald, o_bin 0, o_iast, o_goto 3] := rfl
theorem k303_2 : a_bl 303 2 = [o_al 0, o_getR 11 68, o_il 2, o_al 0, o_getR 11 68, o_il 3, o_iald, o_iast, o_al 0, o_getR 11 69, o_il 2, o_al 0, o_getR 11 69, o_il 3, o_iald, o_iast, o_iinc 2 (J 1), o_ft 3] := rfl
theorem k303_3 : a_bl 303 3 = [o_iinc 3 (J 1), o_goto 1] := rfl
theorem k303_4 : a_bl 303 4 = [o_il 2, o_ret 1] := rfl
theorem k303_r : a_rt 303 = (some .int) := rfl
theorem k303_s {E : AEn} {hi : AHi} {hr : AHr} {n : Nat} {Q : ARs → Prop} (x0 : Nat) (x1 : Int32) : Sp E 303 [.ref x0, .int x1] hi hr n Q ↔ Tm E 303 (a_bl 303 0) [.ref x0, .int x1, a_mk, a_mk] [] hi hr n Q := Iff.rfl
theorem K303 : (type_of% k303_0) ∧ (type_of% k303_2) ∧ (type_of% k303_3) ∧ (type_of% k303_4) ∧ (type_of% k303_r) ∧ (type_of% @k303_s) := ⟨k303_0, k303_2, k303_3, k303_4, k303_r, @k303_s⟩
theorem c303 {m : Nat} {is : List AOp} {ls st : List Value} {E : AEn} {hi : AHi} {hr : AHr} {n : Nat} {Q : ARs → Prop} (x0 : Nat) (x1 : Int32) : Tm E m (o_call 303 :: is) ls (.int x1 :: .ref x0 :: st) hi hr n Q ↔ (a_kd x0 = 11 ∧ x0 < n ∧ st.length ≤ 4) ∧ Sp E 303 [.ref x0, .int x1] hi hr n (fun r => Tm E m is ls (r.1.toList ++ st) r.2.1 r.2.2.1 r.2.2.2 Q) := T_cI [.int x1] rfl rfl rfl rfl
/-! CartoonHouseModel.single(I)I -/
theorem k304_0 : a_bl 304 0 = [o_I (J (-1)), o_is 2, o_il 1, o_I (J 1), o_bin 1, o_is 3, o_ft 1] := rfl
theorem k304_1 : a_bl 304 1 = [o_il 3, o_if 2 4, o_al 0, o_getR 11 69, o_il 3, o_iald, o_I (J 1), o_ic 1 2, o_il 3, o_goto 3] := rfl
theorem k304_2 : a_bl 304 2 = [o_il 2, o_ft 3] := rfl
theorem k304_3 : a_bl 304 3 = [o_is 2, o_iinc 3 (J (-1)), o_goto 1] := rfl
theorem k304_4 : a_bl 304 4 = [o_il 2, o_ret 1] := rfl
theorem k304_r : a_rt 304 = (some .int) := rfl
theorem k304_s {E : AEn} {hi : AHi} {hr : AHr} {n : Nat} {Q : ARs → Prop} (x0 : Nat) (x1 : Int32) : Sp E 304 [.ref x0, .int x1] hi hr n Q ↔ Tm E 304 (a_bl 304 0) [.ref x0, .int x1, a_mk, a_mk] [] hi hr n Q := Iff.rfl
theorem K304 : (type_of% k304_0) ∧ (type_of% k304_2) ∧ (type_of% k304_3) ∧ (type_of% k304_4) ∧ (type_of% k304_r) ∧ (type_of% @k304_s) := ⟨k304_0, k304_2, k304_3, k304_4, k304_r, @k304_s⟩
theorem c304 {m : Nat} {is : List AOp} {ls st : List Value} {E : AEn} {hi : AHi} {hr : AHr} {n : Nat} {Q : ARs → Prop} (x0 : Nat) (x1 : Int32) : Tm E m (o_call 304 :: is) ls (.int x1 :: .ref x0 :: st) hi hr n Q ↔ (a_kd x0 = 11 ∧ x0 < n ∧ st.length ≤ 4) ∧ Sp E 304 [.ref x0, .int x1] hi hr n (fun r => Tm E m is ls (r.1.toList ++ st) r.2.1 r.2.2.1 r.2.2.2 Q) := T_cI [.int x1] rfl rfl rfl rfl
/-! CartoonHouseModel.mouth(II)I -/
theorem k305_0 : a_bl 305 0 = [o_il 1, o_I (J 0), o_al 0, o_getI 11 65, o_I (J 1), o_bin 1, o_call 219, o_if 1 1, o_I (J (-1)), o_ret 1] := rfl
theorem k305_1 : a_bl 305 1 = [o_I (J 0), o_is 3, o_I (J 0), o_is 4, o_ft 2] := rfl
theorem k305_2 : a_bl 305 2 = [o_il 4, o_il 1, o_ic 3 3, o_il 3, o_al 0, o_getR 11 67, o_il 4, o_iald, o_bin 0, o_is 3, o_iinc 4 (J 1), o_goto 2] := rfl
theorem k305_3 : a_bl 305 3 = [o_il 2, o_if 1 4, o_al 0, o_getR 11 66, o_il 1, o_iald, o_goto 7] := rfl
theorem k305_4 : a_bl 305 4 = [o_il 2, o_I (J 1), o_ic 1 5, o_il 3, o_goto 7] := rfl
theorem k305_5 : a_bl 305 5 = [o_il 2, o_I (J 2), o_ic 1 6, o_al 0, o_getR 11 67, o_il 1, o_iald, o_goto 7] := rfl
theorem k305_6 : a_bl 305 6 = [o_I (J (-1)), o_ft 7] := rfl
theorem k305_7 : a_bl 305 7 = [o_ret 1] := rfl
theorem k305_r : a_rt 305 = (some .int) := rfl
theorem k305_s {E : AEn} {hi : AHi} {hr : AHr} {n : Nat} {Q : ARs → Prop} (x0 : Nat) (x1 : Int32) (x2 : Int32) : Sp E 305 [.ref x0, .int x1, .int x2] hi hr n Q ↔ Tm E 305 (a_bl 305 0) [.ref x0, .int x1, .int x2, a_mk, a_mk] [] hi hr n Q := Iff.rfl
theorem K305 : (type_of% k305_0) ∧ (type_of% k305_1) ∧ (type_of% k305_3) ∧ (type_of% k305_4) ∧ (type_of% k305_5) ∧ (type_of% k305_6) ∧ (type_of% k305_7) ∧ (type_of% k305_r) ∧ (type_of% @k305_s) := ⟨k305_0, k305_1, k305_3, k305_4, k305_5, k305_6, k305_7, k305_r, @k305_s⟩
theorem c305 {m : Nat} {is : List AOp} {ls st : List Value} {E : AEn} {hi : AHi} {hr : AHr} {n : Nat} {Q : ARs → Prop} (x0 : Nat) (x1 : Int32) (x2 : Int32) : Tm E m (o_call 305 :: is) ls (.int x2 :: .int x1 :: .ref x0 :: st) hi hr n Q ↔ (a_kd x0 = 11 ∧ x0 < n ∧ st.length ≤ 4) ∧ Sp E 305 [.ref x0, .int x1, .int x2] hi hr n (fun r => Tm E m is ls (r.1.toList ++ st) r.2.1 r.2.2.1 r.2.2.2 Q) := T_cI [.int x1, .int x2] rfl rfl rfl rfl
/-! CartoonHouseModel.blink(II)I -/
theorem k306_0 : a_bl 306 0 = [o_il 2, o_I (J 0), o_I (J 9999), o_call 219, o_if 1 1, o_I (J (-1)), o_ret 1] := rfl
theorem k306_1 : a_bl 306 1 = [o_il 1, o_I (J 1103515245), o_bin 2, o_I (J 12345), o_bin 0, o_is 3, o_I (J 20), o_il 3, o_I (J 16), o_bin 8, o_I (J 32), o_bin 10, o_bin 0, o_is 4, o_ft 2] := rfl
theorem k306_2 : a_bl 306 2 = [o_il 4, o_I (J 3), o_bin 0, o_il 2, o_ic 4 3, o_il 3, o_I (J 1103515245), o_bin 2, o_I (J 12345), o_bin 0, o_is 3, o_il 4, o_I (J 24), o_il 3, o_I (J 16), o_bin 8, o_I (J 64), o_bin 10, o_bin 0, o_bin 0, o_is 4, o_goto 2] := rfl
theorem k306_3 : a_bl 306 3 = [o_il 4, o_il 2, o_ic 4 4, o_I (J 1), o_goto 5] := rfl
theorem k306_4 : a_bl 306 4 = [o_I (J 0), o_ft 5] := rfl
theorem k306_5 : a_bl 306 5 = [o_ret 1] := rfl
theorem k306_r : a_rt 306 = (some .int) := rfl
theorem k306_s {E : AEn} {hi : AHi} {hr : AHr} {n : Nat} {Q : ARs → Prop} (x0 : Nat) (x1 : Int32) (x2 : Int32) : Sp E 306 [.ref x0, .int x1, .int x2] hi hr n Q ↔ Tm E 306 (a_bl 306 0) [.ref x0, .int x1, .int x2, a_mk, a_mk] [] hi hr n Q := Iff.rfl
theorem K306 : (type_of% k306_0) ∧ (type_of% k306_1) ∧ (type_of% k306_3) ∧ (type_of% k306_4) ∧ (type_of% k306_5) ∧ (type_of% k306_r) ∧ (type_of% @k306_s) := ⟨k306_0, k306_1, k306_3, k306_4, k306_5, k306_r, @k306_s⟩
theorem c306 {m : Nat} {is : List AOp} {ls st : List Value} {E : AEn} {hi : AHi} {hr : AHr} {n : Nat} {Q : ARs → Prop} (x0 : Nat) (x1 : Int32) (x2 : Int32) : Tm E m (o_call 306 :: is) ls (.int x2 :: .int x1 :: .ref x0 :: st) hi hr n Q ↔ (a_kd x0 = 11 ∧ x0 < n ∧ st.length ≤ 4) ∧ Sp E 306 [.ref x0, .int x1, .int x2] hi hr n (fun r => Tm E m is ls (r.1.toList ++ st) r.2.1 r.2.2.1 r.2.2.2 Q) := T_cI [.int x1, .int x2] rfl rfl rfl rfl
/-! CartoonHouseModel.camera(IIII)I -/
theorem k307_0 : a_bl 307 0 = [o_il 1, o_call 287, o_if 0 1, o_il 2, o_I (J (-400)), o_I (J 400), o_call 219, o_if 0 1, o_il 3, o_I (J (-400)), o_I (J 400), o_call 219, o_if 0 1, o_il 4, o_if 0 2, o_il 4, o_I (J 16), o_I (J 256), o_call 219, o_if 1 2, o_ft 1] := rfl
theorem k307_1 : a_bl 307 1 = [o_I (J (-1)), o_ret 1] := rfl
theorem k307_2 : a_bl 307 2 = [o_I (J (-1)), o_is 5, o_I (J 0), o_is 6, o_ft 3] := rfl
theorem k307_3 : a_bl 307 3 = [o_il 6, o_al 0, o_getI 11 70, o_ic 3 6, o_al 0, o_getR 11 71, o_il 6, o_iald, o_il 1, o_ic 1 4, o_il 6, o_goto 5] := rfl
theorem k307_4 : a_bl 307 4 = [o_il 5, o_ft 5] := rfl
theorem k307_5 : a_bl 307 5 = [o_is 5, o_iinc 6 (J 1), o_goto 3] := rfl
theorem k307_6 : a_bl 307 6 = [o_il 4, o_if 1 11, o_il 5, o_is 6, o_ft 7] := rfl
theorem k307_7 : a_bl 307 7 = [o_il 5, o_if 2 8, o_il 6, o_al 0, o_getI 11 70, o_I (J 1), o_bin 1, o_ic 3 8, o_al 0, o_getR 11 71, o_il 6, o_al 0, o_getR 11 71, o_il 6, o_I (J 1), o_bin 0, o_iald, o_iast, o_al 0, o_getR 11 72, o_il 6, o_al 0, o_getR 11 72, o_il 6, o_I (J 1), o_bin 0, o_iald, o_iast, o_al 0, o_getR 11 73, o_il 6, o_al 0, o_getR 11 73, o_il 6, o_I (J 1), o_bin 0, o_iald, o_iast, o_al 0, o_getR 11 74, o_il 6, o_al 0, o_getR 11 74, o_il 6, o_I (J 1), o_bin 0, o_iald, o_iast, o_iinc 6 (J 1), o_goto 7] := rfl
theorem k307_8 : a_bl 307 8 = [o_al 0, o_dup, o_getI 11 70, o_il 5, o_if 2 9, o_I (J 1), o_goto 10] := rfl
theorem k307_9 : a_bl 307 9 = [o_I (J 0), o_ft 10] := rfl
theorem k307_10 : a_bl 307 10 = [o_bin 1, o_putI 11 70, o_al 0, o_getI 11 70, o_ret 1] := rfl
theorem k307_11 : a_bl 307 11 = [o_il 5, o_if 3 12, o_al 0, o_getI 11 70, o_I (J 8), o_ic 1 12, o_I (J (-4)), o_ret 1] := rfl
theorem k307_12 : a_bl 307 12 = [o_il 5, o_if 3 13, o_al 0, o_getI 11 70, o_is 5, o_al 0, o_dup, o_getI 11 70, o_I (J 1), o_bin 0, o_putI 11 70, o_ft 13] := rfl
theorem k307_13 : a_bl 307 13 = [o_al 0, o_getR 11 71, o_il 5, o_il 1, o_iast, o_al 0, o_getR 11 72, o_il 5, o_il 2, o_iast, o_al 0, o_getR 11 73, o_il 5, o_il 3, o_iast, o_al 0, o_getR 11 74, o_il 5, o_il 4, o_iast, o_al 0, o_getI 11 70, o_ret 1] := rfl
theorem k307_r : a_rt 307 = (some .int) := rfl
theorem k307_s {E : AEn} {hi : AHi} {hr : AHr} {n : Nat} {Q : ARs → Prop} (x0 : Nat) (x1 : Int32) (x2 : Int32) (x3 : Int32) (x4 : Int32) : Sp E 307 [.ref x0, .int x1, .int x2, .int x3, .int x4] hi hr n Q ↔ Tm E 307 (a_bl 307 0) [.ref x0, .int x1, .int x2, .int x3, .int x4, a_mk, a_mk] [] hi hr n Q := Iff.rfl
theorem K307 : (type_of% k307_0) ∧ (type_of% k307_1) ∧ (type_of% k307_2) ∧ (type_of% k307_4) ∧ (type_of% k307_5) ∧ (type_of% k307_6) ∧ (type_of% k307_8) ∧ (type_of% k307_9) ∧ (type_of% k307_10) ∧ (type_of% k307_11) ∧ (type_of% k307_12) ∧ (type_of% k307_13) ∧ (type_of% k307_r) ∧ (type_of% @k307_s) := ⟨k307_0, k307_1, k307_2, k307_4, k307_5, k307_6, k307_8, k307_9, k307_10, k307_11, k307_12, k307_13, k307_r, @k307_s⟩
theorem c307 {m : Nat} {is : List AOp} {ls st : List Value} {E : AEn} {hi : AHi} {hr : AHr} {n : Nat} {Q : ARs → Prop} (x0 : Nat) (x1 : Int32) (x2 : Int32) (x3 : Int32) (x4 : Int32) : Tm E m (o_call 307 :: is) ls (.int x4 :: .int x3 :: .int x2 :: .int x1 :: .ref x0 :: st) hi hr n Q ↔ (a_kd x0 = 11 ∧ x0 < n ∧ st.length ≤ 4) ∧ Sp E 307 [.ref x0, .int x1, .int x2, .int x3, .int x4] hi hr n (fun r => Tm E m is ls (r.1.toList ++ st) r.2.1 r.2.2.1 r.2.2.2 Q) := T_cI [.int x1, .int x2, .int x3, .int x4] rfl rfl rfl rfl
/-! CartoonHouseModel.depth(II)I -/
theorem k308_0 : a_bl 308 0 = [o_il 1, o_call 264, o_if 0 1, o_il 2, o_I (J 16), o_I (J 1024), o_call 219, o_if 1 2, o_ft 1] := rfl
theorem k308_1 : a_bl 308 1 = [o_I (J (-1)), o_ret 1] := rfl
theorem k308_2 : a_bl 308 2 = [o_al 0, o_getR 11 75, o_il 1, o_iald, o_is 3, o_al 0, o_getR 11 75, o_il 1, o_il 2, o_iast, o_il 3, o_ret 1] := rfl
theorem k308_r : a_rt 308 = (some .int) := rfl
theorem k308_s {E : AEn} {hi : AHi} {hr : AHr} {n : Nat} {Q : ARs → Prop} (x0 : Nat) (x1 : Int32) (x2 : Int32) : Sp E 308 [.ref x0, .int x1, .int x2] hi hr n Q ↔ Tm E 308 (a_bl 308 0) [.ref x0, .int x1, .int x2, a_mk] [] hi hr n Q := Iff.rfl
theorem K308 : (type_of% k308_0) ∧ (type_of% k308_1) ∧ (type_of% k308_2) ∧ (type_of% k308_r) ∧ (type_of% @k308_s) := ⟨k308_0, k308_1, k308_2, k308_r, @k308_s⟩
theorem c308 {m : Nat} {is : List AOp} {ls st : List Value} {E : AEn} {hi : AHi} {hr : AHr} {n : Nat} {Q : ARs → Prop} (x0 : Nat) (x1 : Int32) (x2 : Int32) : Tm E m (o_call 308 :: is) ls (.int x2 :: .int x1 :: .ref x0 :: st) hi hr n Q ↔ (a_kd x0 = 11 ∧ x0 < n ∧ st.length ≤ 4) ∧ Sp E 308 [.ref x0, .int x1, .int x2] hi hr n (fun r => Tm E m is ls (r.1.toList ++ st) r.2.1 r.2.2.1 r.2.2.2 Q) := T_cI [.int x1, .int x2] rfl rfl rfl rfl
/-! CartoonHouseModel.seen(IIIII)I -/
theorem k309_0 : a_bl 309 0 = [o_il 1, o_call 264, o_if 0 1, o_il 2, o_I (J (-400)), o_I (J 400), o_call 219, o_if 0 1, o_il 3, o_I (J (-400)), o_I (J 400), o_call 219, o_if 0 1, o_il 4, o_call 287, o_if 0 1, o_il 5, o_I (J 0), o_I (J 1), o_call 219, o_if 1 2, o_ft 1] := rfl
theorem k309_1 : a_bl 309 1 = [o_I (J (-1000000)), o_ret 1] := rfl
theorem k309_2 : a_bl 309 2 = [o_al 0, o_il 4, o_call 310, o_L (L 64), o_al 0, o_getR 11 75, o_il 1, o_iald, o_un 1, o_binL 2, o_lst 6, o_il 5, o_if 1 3, o_I (J 24), o_il 2, o_I (J 24), o_bin 1, o_un 1, o_al 0, o_getR 11 75, o_il 1, o_iald, o_un 1, o_binL 2, o_L (L 64), o_al 0, o_getI 11 79, o_un 1, o_binL 2, o_binL 1, o_al 0, o_getI 11 81, o_un 1, o_binL 2, o_ll 6, o_call 243, o_bin 0, o_ret 1] := rfl
theorem k309_3 : a_bl 309 3 = [o_I (J 16), o_il 3, o_I (J 16), o_bin 1, o_un 1, o_al 0, o_getR 11 75, o_il 1, o_iald, o_un 1, o_binL 2, o_L (L 64), o_al 0, o_getI 11 80, o_un 1, o_binL 2, o_binL 1, o_al 0, o_getI 11 81, o_un 1, o_binL 2, o_ll 6, o_call 243, o_bin 0, o_ret 1] := rfl
theorem k309_r : a_rt 309 = (some .int) := rfl
theorem k309_s {E : AEn} {hi : AHi} {hr : AHr} {n : Nat} {Q : ARs → Prop} (x0 : Nat) (x1 : Int32) (x2 : Int32) (x3 : Int32) (x4 : Int32) (x5 : Int32) : Sp E 309 [.ref x0, .int x1, .int x2, .int x3, .int x4, .int x5] hi hr n Q ↔ Tm E 309 (a_bl 309 0) [.ref x0, .int x1, .int x2, .int x3, .int x4, .int x5, a_mk, a_mk] [] hi hr n Q := Iff.rfl
theorem K309 : (type_of% k309_0) ∧ (type_of% k309_1) ∧ (type_of% k309_2) ∧ (type_of% k309_3) ∧ (type_of% k309_r) ∧ (type_of% @k309_s) := ⟨k309_0, k309_1, k309_2, k309_3, k309_r, @k309_s⟩
theorem c309 {m : Nat} {is : List AOp} {ls st : List Value} {E : AEn} {hi : AHi} {hr : AHr} {n : Nat} {Q : ARs → Prop} (x0 : Nat) (x1 : Int32) (x2 : Int32) (x3 : Int32) (x4 : Int32) (x5 : Int32) : Tm E m (o_call 309 :: is) ls (.int x5 :: .int x4 :: .int x3 :: .int x2 :: .int x1 :: .ref x0 :: st) hi hr n Q ↔ (a_kd x0 = 11 ∧ x0 < n ∧ st.length ≤ 4) ∧ Sp E 309 [.ref x0, .int x1, .int x2, .int x3, .int x4, .int x5] hi hr n (fun r => Tm E m is ls (r.1.toList ++ st) r.2.1 r.2.2.1 r.2.2.2 Q) := T_cI [.int x1, .int x2, .int x3, .int x4, .int x5] rfl rfl rfl rfl
/-! CartoonHouseModel.films(I)V -/
theorem k310_0 : a_bl 310 0 = [o_al 0, o_al 0, o_getR 11 71, o_al 0, o_getR 11 72, o_I (J 0), o_al 0, o_getI 11 70, o_il 1, o_I (J 0), o_call 292, o_putI 11 79, o_al 0, o_al 0, o_getR 11 71, o_al 0, o_getR 11 73, o_I (J 0), o_al 0, o_getI 11 70, o_il 1, o_I (J 0), o_call 292, o_putI 11 80, o_al 0, o_al 0, o_getR 11 71, o_al 0, o_getR 11 74, o_I (J 0), o_al 0, o_getI 11 70, o_il 1, o_I (J 64), o_call 292, o_putI 11 81, o_ret 0] := rfl
theorem k310_r : a_rt 310 = none := rfl
theorem k310_s {E : AEn} {hi : AHi} {hr : AHr} {n : Nat} {Q : ARs → Prop} (x0 : Nat) (x1 : Int32) : Sp E 310 [.ref x0, .int x1] hi hr n Q ↔ Tm E 310 (a_bl 310 0) [.ref x0, .int x1] [] hi hr n Q := Iff.rfl
theorem K310 : (type_of% k310_0) ∧ (type_of% k310_r) ∧ (type_of% @k310_s) := ⟨k310_0, k310_r, @k310_s⟩
theorem c310 {m : Nat} {is : List AOp} {ls st : List Value} {E : AEn} {hi : AHi} {hr : AHr} {n : Nat} {Q : ARs → Prop} (x0 : Nat) (x1 : Int32) : Tm E m (o_call 310 :: is) ls (.int x1 :: .ref x0 :: st) hi hr n Q ↔ (a_kd x0 = 11 ∧ x0 < n ∧ st.length ≤ 4) ∧ Sp E 310 [.ref x0, .int x1] hi hr n (fun r => Tm E m is ls (r.1.toList ++ st) r.2.1 r.2.2.1 r.2.2.2 Q) := T_cI [.int x1] rfl rfl rfl rfl
/-! CartoonHouseModel.cutOff(III)I -/
theorem k311_0 : a_bl 311 0 = [o_il 1, o_call 264, o_if 0 1, o_il 2, o_call 287, o_if 0 1, o_il 3, o_call 287, o_if 1 2, o_ft 1] := rfl
theorem k311_1 : a_bl 311 1 = [o_I (J (-1)), o_ret 1] := rfl
theorem k311_2 : a_bl 311 2 = [o_il 2, o_is 4, o_ft 3] := rfl
theorem k311_3 : a_bl 311 3 = [o_il 4, o_il 3, o_ic 4 6, o_al 0, o_il 4, o_call 310, o_al 0, o_il 1, o_I (J 0), o_call 312, o_al 0, o_il 1, o_I (J 0), o_call 313, o_call 237, o_if 0 4, o_al 0, o_il 1, o_I (J 47), o_call 312, o_al 0, o_il 1, o_I (J 31), o_call 313, o_call 237, o_if 1 5, o_ft 4] := rfl
theorem k311_4 : a_bl 311 4 = [o_il 4, o_ret 1] := rfl
theorem k311_5 : a_bl 311 5 = [o_iinc 4 (J 1), o_goto 3] := rfl
theorem k311_6 : a_bl 311 6 = [o_I (J (-1)), o_ret 1] := rfl
theorem k311_r : a_rt 311 = (some .int) := rfl
theorem k311_s {E : AEn} {hi : AHi} {hr : AHr} {n : Nat} {Q : ARs → Prop} (x0 : Nat) (x1 : Int32) (x2 : Int32) (x3 : Int32) : Sp E 311 [.ref x0, .int x1, .int x2, .int x3] hi hr n Q ↔ Tm E 311 (a_bl 311 0) [.ref x0, .int x1, .int x2, .int x3, a_mk] [] hi hr n Q := Iff.rfl
theorem K311 : (type_of% k311_0) ∧ (type_of% k311_1) ∧ (type_of% k311_2) ∧ (type_of% k311_4) ∧ (type_of% k311_5) ∧ (type_of% k311_6) ∧ (type_of% k311_r) ∧ (type_of% @k311_s) := ⟨k311_0, k311_1, k311_2, k311_4, k311_5, k311_6, k311_r, @k311_s⟩
theorem c311 {m : Nat} {is : List AOp} {ls st : List Value} {E : AEn} {hi : AHi} {hr : AHr} {n : Nat} {Q : ARs → Prop} (x0 : Nat) (x1 : Int32) (x2 : Int32) (x3 : Int32) : Tm E m (o_call 311 :: is) ls (.int x3 :: .int x2 :: .int x1 :: .ref x0 :: st) hi hr n Q ↔ (a_kd x0 = 11 ∧ x0 < n ∧ st.length ≤ 4) ∧ Sp E 311 [.ref x0, .int x1, .int x2, .int x3] hi hr n (fun r => Tm E m is ls (r.1.toList ++ st) r.2.1 r.2.2.1 r.2.2.2 Q) := T_cI [.int x1, .int x2, .int x3] rfl rfl rfl rfl
/-! CartoonHouseModel.placeX(II)I -/
theorem k312_0 : a_bl 312 0 = [o_I (J 24), o_il 2, o_I (J 24), o_bin 1, o_un 1, o_L (L 64), o_binL 2, o_al 0, o_getR 11 75, o_il 1, o_iald, o_un 1, o_binL 2, o_L (L 64), o_al 0, o_getI 11 79, o_un 1, o_binL 2, o_al 0, o_getI 11 81, o_un 1, o_binL 2, o_binL 0, o_al 0, o_getI 11 81, o_un 1, o_al 0, o_getR 11 75, o_il 1, o_iald, o_un 1, o_binL 2, o_call 243, o_bin 0, o_ret 1] := rfl
theorem k312_r : a_rt 312 = (some .int) := rfl
theorem k312_s {E : AEn} {hi : AHi} {hr : AHr} {n : Nat} {Q : ARs → Prop} (x0 : Nat) (x1 : Int32) (x2 : Int32) : Sp E 312 [.ref x0, .int x1, .int x2] hi hr n Q ↔ Tm E 312 (a_bl 312 0) [.ref x0, .int x1, .int x2] [] hi hr n Q := Iff.rfl
theorem K312 : (type_of% k312_0) ∧ (type_of% k312_r) ∧ (type_of% @k312_s) := ⟨k312_0, k312_r, @k312_s⟩
theorem c312 {m : Nat} {is : List AOp} {ls st : List Value} {E : AEn} {hi : AHi} {hr : AHr} {n : Nat} {Q : ARs → Prop} (x0 : Nat) (x1 : Int32) (x2 : Int32) : Tm E m (o_call 312 :: is) ls (.int x2 :: .int x1 :: .ref x0 :: st) hi hr n Q ↔ (a_kd x0 = 11 ∧ x0 < n ∧ st.length ≤ 4) ∧ Sp E 312 [.ref x0, .int x1, .int x2] hi hr n (fun r => Tm E m is ls (r.1.toList ++ st) r.2.1 r.2.2.1 r.2.2.2 Q) := T_cI [.int x1, .int x2] rfl rfl rfl rfl
/-! CartoonHouseModel.placeY(II)I -/
theorem k313_0 : a_bl 313 0 = [o_I (J 16), o_il 2, o_I (J 16), o_bin 1, o_un 1, o_L (L 64), o_binL 2, o_al 0, o_getR 11 75, o_il 1, o_iald, o_un 1, o_binL 2, o_L (L 64), o_al 0, o_getI 11 80, o_un 1, o_binL 2, o_al 0, o_getI 11 81, o_un 1, o_binL 2, o_binL 0, o_al 0, o_getI 11 81, o_un 1, o_al 0, o_getR 11 75, o_il 1, o_iald, o_un 1, o_binL 2, o_call 243, o_bin 0, o_ret 1] := rfl
theorem k313_r : a_rt 313 = (some .int) := rfl
theorem k313_s {E : AEn} {hi : AHi} {hr : AHr} {n : Nat} {Q : ARs → Prop} (x0 : Nat) (x1 : Int32) (x2 : Int32) : Sp E 313 [.ref x0, .int x1, .int x2] hi hr n Q ↔ Tm E 313 (a_bl 313 0) [.ref x0, .int x1, .int x2] [] hi hr n Q := Iff.rfl
theorem K313 : (type_of% k313_0) ∧ (type_of% k313_r) ∧ (type_of% @k313_s) := ⟨k313_0, k313_r, @k313_s⟩
theorem c313 {m : Nat} {is : List AOp} {ls st : List Value} {E : AEn} {hi : AHi} {hr : AHr} {n : Nat} {Q : ARs → Prop} (x0 : Nat) (x1 : Int32) (x2 : Int32) : Tm E m (o_call 313 :: is) ls (.int x2 :: .int x1 :: .ref x0 :: st) hi hr n Q ↔ (a_kd x0 = 11 ∧ x0 < n ∧ st.length ≤ 4) ∧ Sp E 313 [.ref x0, .int x1, .int x2] hi hr n (fun r => Tm E m is ls (r.1.toList ++ st) r.2.1 r.2.2.1 r.2.2.2 Q) := T_cI [.int x1, .int x2] rfl rfl rfl rfl
/-! CartoonHouseModel.wiggle(IIII)I -/
theorem k314_0 : a_bl 314 0 = [o_il 1, o_call 264, o_if 0 1, o_il 3, o_I (J 0), o_I (J 24), o_call 219, o_if 0 1, o_il 4, o_I (J 0), o_I (J 3), o_call 219, o_if 1 2, o_ft 1] := rfl
theorem k314_1 : a_bl 314 1 = [o_I (J (-1)), o_ret 1] := rfl
theorem k314_2 : a_bl 314 2 = [o_al 0, o_getR 11 76, o_il 1, o_il 3, o_iast, o_al 0, o_getR 11 78, o_il 1, o_il 2, o_iast, o_al 0, o_getR 11 77, o_il 1, o_il 4, o_iast, o_I (J 1), o_ret 1] := rfl
theorem k314_r : a_rt 314 = (some .int) := rfl
theorem k314_s {E : AEn} {hi : AHi} {hr : AHr} {n : Nat} {Q : ARs → Prop} (x0 : Nat) (x1 : Int32) (x2 : Int32) (x3 : Int32) (x4 : Int32) : Sp E 314 [.ref x0, .int x1, .int x2, .int x3, .int x4] hi hr n Q ↔ Tm E 314 (a_bl 314 0) [.ref x0, .int x1, .int x2, .int x3, .int x4] [] hi hr n Q := Iff.rfl
theorem K314 : (type_of% k314_0) ∧ (type_of% k314_1) ∧ (type_of% k314_2) ∧ (type_of% k314_r) ∧ (type_of% @k314_s) := ⟨k314_0, k314_1, k314_2, k314_r, @k314_s⟩
theorem c314 {m : Nat} {is : List AOp} {ls st : List Value} {E : AEn} {hi : AHi} {hr : AHr} {n : Nat} {Q : ARs → Prop} (x0 : Nat) (x1 : Int32) (x2 : Int32) (x3 : Int32) (x4 : Int32) : Tm E m (o_call 314 :: is) ls (.int x4 :: .int x3 :: .int x2 :: .int x1 :: .ref x0 :: st) hi hr n Q ↔ (a_kd x0 = 11 ∧ x0 < n ∧ st.length ≤ 4) ∧ Sp E 314 [.ref x0, .int x1, .int x2, .int x3, .int x4] hi hr n (fun r => Tm E m is ls (r.1.toList ++ st) r.2.1 r.2.2.1 r.2.2.2 Q) := T_cI [.int x1, .int x2, .int x3, .int x4] rfl rfl rfl rfl
/-! CartoonHouseModel.node()I -/
theorem k315_0 : a_bl 315 0 = [o_al 0, o_call 217, o_al 0, o_call 222, o_call 300, o_if 1 1, o_al 0, o_al 0, o_getI 11 4, o_call 224, o_ft 1] := rfl
theorem k315_1 : a_bl 315 1 = [o_al 0, o_call 221, o_if 0 3, o_al 0, o_call 222, o_call 300, o_if 1 2, o_al 0, o_call 222, o_call 223, o_if 0 3, o_ft 2] := rfl
theorem k315_2 : a_bl 315 2 = [o_al 0, o_dup, o_getI 11 4, o_I (J 1), o_bin 0, o_putI 11 4, o_goto 1] := rfl
theorem k315_3 : a_bl 315 3 = [o_al 0, o_call 221, o_if 0 4, o_al 0, o_I (J 0), o_call 316, o_goto 5] := rfl
theorem k315_4 : a_bl 315 4 = [o_I (J (-1)), o_ft 5] := rfl
theorem k315_5 : a_bl 315 5 = [o_is 1, o_al 0, o_call 221, o_if 0 6, o_il 1, o_if 3 6, o_al 0, o_I (J 0), o_call 224, o_ft 6] := rfl
theorem k315_6 : a_bl 315 6 = [o_al 0, o_call 221, o_if 0 7, o_al 0, o_il 1, o_call 318, o_ft 7] := rfl
theorem k315_7 : a_bl 315 7 = [o_al 0, o_call 321, o_al 0, o_call 221, o_if 1 8, o_al 0, o_call 226, o_ret 1] := rfl
theorem k315_8 : a_bl 315 8 = [o_al 0, o_getI 11 82, o_I (J 10), o_ic 1 9, o_I (J (-4)), o_ret 1] := rfl
theorem k315_9 : a_bl 315 9 = [o_al 0, o_getR 11 83, o_al 0, o_getI 11 82, o_il 1, o_iast, o_I (J 0), o_is 2, o_ft 10] := rfl
theorem k315_10 : a_bl 315 10 = [o_il 2, o_I (J 6), o_ic 3 11, o_al 0, o_getR 11 84, o_I (J 6), o_al 0, o_getI 11 82, o_bin 2, o_il 2, o_bin 0, o_al 0, o_getR 11 85, o_il 2, o_iald, o_iast, o_iinc 2 (J 1), o_goto 10] := rfl
theorem k315_11 : a_bl 315 11 = [o_al 0, o_dup, o_getI 11 82, o_I (J 1), o_bin 0, o_putI 11 82, o_al 0, o_getI 11 82, o_I (J 1), o_bin 1, o_ret 1] := rfl
theorem k315_r : a_rt 315 = (some .int) := rfl
theorem k315_s {E : AEn} {hi : AHi} {hr : AHr} {n : Nat} {Q : ARs → Prop} (x0 : Nat) : Sp E 315 [.ref x0] hi hr n Q ↔ Tm E 315 (a_bl 315 0) [.ref x0, a_mk, a_mk] [] hi hr n Q := Iff.rfl
theorem K315 : (type_of% k315_0) ∧ (type_of% k315_2) ∧ (type_of% k315_3) ∧ (type_of% k315_4) ∧ (type_of% k315_5) ∧ (type_of% k315_6) ∧ (type_of% k315_7) ∧ (type_of% k315_8) ∧ (type_of% k315_9) ∧ (type_of% k315_11) ∧ (type_of% k315_r) ∧ (type_of% @k315_s) := ⟨k315_0, k315_2, k315_3, k315_4, k315_5, k315_6, k315_7, k315_8, k315_9, k315_11, k315_r, @k315_s⟩
theorem c315 {m : Nat} {is : List AOp} {ls st : List Value} {E : AEn} {hi : AHi} {hr : AHr} {n : Nat} {Q : ARs → Prop} (x0 : Nat) : Tm E m (o_call 315 :: is) ls (.ref x0 :: st) hi hr n Q ↔ (a_kd x0 = 11 ∧ x0 < n ∧ st.length ≤ 4) ∧ Sp E 315 [.ref x0] hi hr n (fun r => Tm E m is ls (r.1.toList ++ st) r.2.1 r.2.2.1 r.2.2.2 Q) := T_cI [] rfl rfl rfl rfl
/-! CartoonHouseModel.sortAt(I)I -/
theorem k316_0 : a_bl 316 0 = [o_al 0, o_il 1, o_I (J 1885433957), o_I (J 114), o_call 317, o_if 0 1, o_I (J 0), o_ret 1] := rfl
theorem k316_1 : a_bl 316 1 = [o_al 0, o_il 1, o_I (J 1818327397), o_I (J 114), o_call 317, o_if 0 2, o_I (J 1), o_ret 1] := rfl
theorem k316_2 : a_bl 316 2 = [o_al 0, o_il 1, o_I (J 1870030194), o_I (J 0), o_call 317, o_if 0 3, o_I (J 2), o_ret 1] := rfl
theorem k316_3 : a_bl 316 3 = [o_al 0, o_il 1, o_I (J 1936222566), o_I (J 116), o_call 317, o_if 0 4, o_I (J 3), o_ret 1] := rfl
theorem k316_4 : a_bl 316 4 = [o_al 0, o_il 1, o_I (J 1835103348), o_I (J 101), o_call 317, o_if 0 5, o_I (J 4), o_ret 1] := rfl
theorem k316_5 : a_bl 316 5 = [o_al 0, o_il 1, o_I (J 1717658725), o_I (J 0), o_call 317, o_if 0 6, o_I (J 5), o_ret 1] := rfl
theorem k316_6 : a_bl 316 6 = [o_al 0, o_il 1, o_I (J 1651275122), o_I (J 0), o_call 317, o_if 0 7, o_I (J 6), o_ret 1] := rfl
theorem k316_7 : a_bl 316 7 = [o_al 0, o_il 1, o_I (J 1936744818), o_I (J 27507), o_call 317, o_if 0 8, o_I (J 7), o_ret 1] := rfl
theorem k316_8 : a_bl 316 8 = [o_I (J (-1)), o_ret 1] := rfl
theorem k316_r : a_rt 316 = (some .int) := rfl
theorem k316_s {E : AEn} {hi : AHi} {hr : AHr} {n : Nat} {Q : ARs → Prop} (x0 : Nat) (x1 : Int32) : Sp E 316 [.ref x0, .int x1] hi hr n Q ↔ Tm E 316 (a_bl 316 0) [.ref x0, .int x1] [] hi hr n Q := Iff.rfl
theorem K316 : (type_of% k316_0) ∧ (type_of% k316_1) ∧ (type_of% k316_2) ∧ (type_of% k316_3) ∧ (type_of% k316_4) ∧ (type_of% k316_5) ∧ (type_of% k316_6) ∧ (type_of% k316_7) ∧ (type_of% k316_8) ∧ (type_of% k316_r) ∧ (type_of% @k316_s) := ⟨k316_0, k316_1, k316_2, k316_3, k316_4, k316_5, k316_6, k316_7, k316_8, k316_r, @k316_s⟩
theorem c316 {m : Nat} {is : List AOp} {ls st : List Value} {E : AEn} {hi : AHi} {hr : AHr} {n : Nat} {Q : ARs → Prop} (x0 : Nat) (x1 : Int32) : Tm E m (o_call 316 :: is) ls (.int x1 :: .ref x0 :: st) hi hr n Q ↔ (a_kd x0 = 11 ∧ x0 < n ∧ st.length ≤ 4) ∧ Sp E 316 [.ref x0, .int x1] hi hr n (fun r => Tm E m is ls (r.1.toList ++ st) r.2.1 r.2.2.1 r.2.2.2 Q) := T_cI [.int x1] rfl rfl rfl rfl
/-! CartoonHouseModel.isWord(III)Z -/
theorem k317_0 : a_bl 317 0 = [o_il 3, o_if 1 1, o_I (J 4), o_goto 3] := rfl
theorem k317_1 : a_bl 317 1 = [o_il 3, o_I (J 128), o_ic 3 2, o_I (J 5), o_goto 3] := rfl
theorem k317_2 : a_bl 317 2 = [o_I (J 6), o_ft 3] := rfl
theorem k317_3 : a_bl 317 3 = [o_is 4, o_al 0, o_getI 11 4, o_il 1, o_bin 1, o_il 4, o_ic 0 4, o_I (J 0), o_ret 1] := rfl
theorem k317_4 : a_bl 317 4 = [o_I (J 1), o_is 5, o_I (J 0), o_is 6, o_ft 5] := rfl
theorem k317_5 : a_bl 317 5 = [o_il 6, o_il 4, o_ic 3 11, o_il 6, o_I (J 4), o_ic 3 6, o_il 2, o_I (J 24), o_I (J 8), o_il 6, o_bin 2, o_bin 1, o_bin 7, o_I (J 255), o_bin 3, o_goto 8] := rfl
theorem k317_6 : a_bl 317 6 = [o_il 4, o_I (J 5), o_ic 1 7, o_il 3, o_goto 8] := rfl
theorem k317_7 : a_bl 317 7 = [o_il 3, o_I (J 8), o_I (J 5), o_il 6, o_bin 1, o_bin 2, o_bin 7, o_I (J 255), o_bin 3, o_ft 8] := rfl
theorem k317_8 : a_bl 317 8 = [o_is 7, o_il 5, o_if 0 9, o_al 0, o_getR 11 1, o_il 1, o_il 6, o_bin 0, o_iald, o_il 7, o_ic 1 9, o_I (J 1), o_goto 10] := rfl
theorem k317_9 : a_bl 317 9 = [o_I (J 0), o_ft 10] := rfl
theorem k317_10 : a_bl 317 10 = [o_is 5, o_iinc 6 (J 1), o_goto 5] := rfl
theorem k317_11 : a_bl 317 11 = [o_il 5, o_ret 1] := rfl
theorem k317_r : a_rt 317 = (some .boolean) := rfl
theorem k317_s {E : AEn} {hi : AHi} {hr : AHr} {n : Nat} {Q : ARs → Prop} (x0 : Nat) (x1 : Int32) (x2 : Int32) (x3 : Int32) : Sp E 317 [.ref x0, .int x1, .int x2, .int x3] hi hr n Q ↔ Tm E 317 (a_bl 317 0) [.ref x0, .int x1, .int x2, .int x3, a_mk, a_mk, a_mk, a_mk] [] hi hr n Q := Iff.rfl
theorem K317 : (type_of% k317_0) ∧ (type_of% k317_1) ∧ (type_of% k317_2) ∧ (type_of% k317_3) ∧ (type_of% k317_4) ∧ (type_of% k317_6) ∧ (type_of% k317_7) ∧ (type_of% k317_8) ∧ (type_of% k317_9) ∧ (type_of% k317_10) ∧ (type_of% k317_11) ∧ (type_of% k317_r) ∧ (type_of% @k317_s) := ⟨k317_0, k317_1, k317_2, k317_3, k317_4, k317_6, k317_7, k317_8, k317_9, k317_10, k317_11, k317_r, @k317_s⟩
theorem c317 {m : Nat} {is : List AOp} {ls st : List Value} {E : AEn} {hi : AHi} {hr : AHr} {n : Nat} {Q : ARs → Prop} (x0 : Nat) (x1 : Int32) (x2 : Int32) (x3 : Int32) : Tm E m (o_call 317 :: is) ls (.int x3 :: .int x2 :: .int x1 :: .ref x0 :: st) hi hr n Q ↔ (a_kd x0 = 11 ∧ x0 < n ∧ st.length ≤ 4) ∧ Sp E 317 [.ref x0, .int x1, .int x2, .int x3] hi hr n (fun r => Tm E m is ls (r.1.toList ++ st) r.2.1 r.2.2.1 r.2.2.2 Q) := T_cI [.int x1, .int x2, .int x3] rfl rfl rfl rfl
/-! CartoonHouseModel.arguments(I)V -/
theorem k318_0 : a_bl 318 0 = [o_il 1, o_sw 0 7 [1, 2, 3, 4, 3, 5, 6]] := rfl
theorem k318_1 : a_bl 318 1 = [o_al 0, o_I (J 0), o_I (J 0), o_I (J 0), o_I (J 16777215), o_call 319, o_ret 0] := rfl
theorem k318_2 : a_bl 318 2 = [o_al 0, o_I (J 0), o_I (J 0), o_I (J 0), o_I (J 3), o_call 319, o_al 0, o_I (J 1), o_I (J 0), o_I (J 0), o_I (J 3), o_call 319, o_ret 0] := rfl
theorem k318_3 : a_bl 318 3 = [o_al 0, o_I (J 0), o_call 320, o_al 0, o_I (J 1), o_call 320, o_ret 0] := rfl
theorem k318_4 : a_bl 318 4 = [o_al 0, o_I (J 0), o_call 320, o_al 0, o_I (J 1), o_I (J 1), o_I (J (-60)), o_I (J 60), o_call 319, o_al 0, o_I (J 2), o_I (J 1), o_I (J (-60)), o_I (J 60), o_call 319, o_ret 0] := rfl
theorem k318_5 : a_bl 318 5 = [o_al 0, o_I (J 0), o_call 320, o_al 0, o_I (J 1), o_call 320, o_al 0, o_I (J 2), o_I (J 0), o_I (J 0), o_I (J 119), o_call 319, o_al 0, o_I (J 3), o_I (J 0), o_al 0, o_getR 11 85, o_I (J 2), o_iald, o_I (J 1), o_bin 0, o_I (J 119), o_call 319, o_ret 0] := rfl
theorem k318_6 : a_bl 318 6 = [o_al 0, o_I (J 0), o_call 320, o_ret 0] := rfl
theorem k318_7 : a_bl 318 7 = [o_al 0, o_I (J 0), o_I (J 1), o_I (J (-99999)), o_I (J 99999), o_call 319, o_al 0, o_I (J 1), o_I (J 0), o_I (J 0), o_I (J 47), o_call 319, o_al 0, o_I (J 2), o_I (J 0), o_I (J 0), o_I (J 31), o_call 319, o_al 0, o_I (J 3), o_I (J 0), o_I (J 1), o_I (J 20), o_call 319, o_al 0, o_I (J 4), o_I (J 0), o_I (J 0), o_I (J 16777215), o_call 319, o_ret 0] := rfl
theorem k318_r : a_rt 318 = none := rfl
theorem k318_s {E : AEn} {hi : AHi} {hr : AHr} {n : Nat} {Q : ARs → Prop} (x0 : Nat) (x1 : Int32) : Sp E 318 [.ref x0, .int x1] hi hr n Q ↔ Tm E 318 (a_bl 318 0) [.ref x0, .int x1] [] hi hr n Q := Iff.rfl
theorem K318 : (type_of% k318_0) ∧ (type_of% k318_1) ∧ (type_of% k318_2) ∧ (type_of% k318_3) ∧ (type_of% k318_4) ∧ (type_of% k318_5) ∧ (type_of% k318_6) ∧ (type_of% k318_7) ∧ (type_of% k318_r) ∧ (type_of% @k318_s) := ⟨k318_0, k318_1, k318_2, k318_3, k318_4, k318_5, k318_6, k318_7, k318_r, @k318_s⟩
theorem c318 {m : Nat} {is : List AOp} {ls st : List Value} {E : AEn} {hi : AHi} {hr : AHr} {n : Nat} {Q : ARs → Prop} (x0 : Nat) (x1 : Int32) : Tm E m (o_call 318 :: is) ls (.int x1 :: .ref x0 :: st) hi hr n Q ↔ (a_kd x0 = 11 ∧ x0 < n ∧ st.length ≤ 4) ∧ Sp E 318 [.ref x0, .int x1] hi hr n (fun r => Tm E m is ls (r.1.toList ++ st) r.2.1 r.2.2.1 r.2.2.2 Q) := T_cI [.int x1] rfl rfl rfl rfl
/-! CartoonHouseModel.argument(IZII)V -/
theorem k319_0 : a_bl 319 0 = [o_al 0, o_I (J 32), o_call 225, o_al 0, o_getR 11 85, o_il 1, o_al 0, o_il 2, o_il 3, o_il 4, o_call 220, o_iast, o_ret 0] := rfl
theorem k319_r : a_rt 319 = none := rfl
theorem k319_s {E : AEn} {hi : AHi} {hr : AHr} {n : Nat} {Q : ARs → Prop} (x0 : Nat) (x1 : Int32) (x2 : Int32) (x3 : Int32) (x4 : Int32) : Sp E 319 [.ref x0, .int x1, .int x2, .int x3, .int x4] hi hr n Q ↔ Tm E 319 (a_bl 319 0) [.ref x0, .int x1, .int x2, .int x3, .int x4] [] hi hr n Q := Iff.rfl
theorem K319 : (type_of% k319_0) ∧ (type_of% k319_r) ∧ (type_of% @k319_s) := ⟨k319_0, k319_r, @k319_s⟩
theorem c319 {m : Nat} {is : List AOp} {ls st : List Value} {E : AEn} {hi : AHi} {hr : AHr} {n : Nat} {Q : ARs → Prop} (x0 : Nat) (x1 : Int32) (x2 : Int32) (x3 : Int32) (x4 : Int32) : Tm E m (o_call 319 :: is) ls (.int x4 :: .int x3 :: .int x2 :: .int x1 :: .ref x0 :: st) hi hr n Q ↔ (a_kd x0 = 11 ∧ x0 < n ∧ st.length ≤ 4) ∧ Sp E 319 [.ref x0, .int x1, .int x2, .int x3, .int x4] hi hr n (fun r => Tm E m is ls (r.1.toList ++ st) r.2.1 r.2.2.1 r.2.2.2 Q) := T_cI [.int x1, .int x2, .int x3, .int x4] rfl rfl rfl rfl
/-! CartoonHouseModel.lower(I)V -/
theorem k320_0 : a_bl 320 0 = [o_al 0, o_il 1, o_I (J 0), o_I (J 0), o_al 0, o_getI 11 82, o_I (J 1), o_bin 1, o_call 319, o_ret 0] := rfl
theorem k320_r : a_rt 320 = none := rfl
theorem k320_s {E : AEn} {hi : AHi} {hr : AHr} {n : Nat} {Q : ARs → Prop} (x0 : Nat) (x1 : Int32) : Sp E 320 [.ref x0, .int x1] hi hr n Q ↔ Tm E 320 (a_bl 320 0) [.ref x0, .int x1] [] hi hr n Q := Iff.rfl
theorem K320 : (type_of% k320_0) ∧ (type_of% k320_r) ∧ (type_of% @k320_s) := ⟨k320_0, k320_r, @k320_s⟩
theorem c320 {m : Nat} {is : List AOp} {ls st : List Value} {E : AEn} {hi : AHi} {hr : AHr} {n : Nat} {Q : ARs → Prop} (x0 : Nat) (x1 : Int32) : Tm E m (o_call 320 :: is) ls (.int x1 :: .ref x0 :: st) hi hr n Q ↔ (a_kd x0 = 11 ∧ x0 < n ∧ st.length ≤ 4) ∧ Sp E 320 [.ref x0, .int x1] hi hr n (fun r => Tm E m is ls (r.1.toList ++ st) r.2.1 r.2.2.1 r.2.2.2 Q) := T_cI [.int x1] rfl rfl rfl rfl
/-! CartoonHouseModel.ends()V -/
theorem k321_0 : a_bl 321 0 = [o_al 0, o_call 221, o_if 0 1, o_al 0, o_getI 11 4, o_al 0, o_getI 11 3, o_ic 3 1, o_al 0, o_al 0, o_getI 11 4, o_call 224, o_ft 1] := rfl
theorem k321_1 : a_bl 321 1 = [o_ret 0] := rfl
theorem k321_r : a_rt 321 = none := rfl
theorem k321_s {E : AEn} {hi : AHi} {hr : AHr} {n : Nat} {Q : ARs → Prop} (x0 : Nat) : Sp E 321 [.ref x0] hi hr n Q ↔ Tm E 321 (a_bl 321 0) [.ref x0] [] hi hr n Q := Iff.rfl
theorem K321 : (type_of% k321_0) ∧ (type_of% k321_1) ∧ (type_of% k321_r) ∧ (type_of% @k321_s) := ⟨k321_0, k321_1, k321_r, @k321_s⟩
theorem c321 {m : Nat} {is : List AOp} {ls st : List Value} {E : AEn} {hi : AHi} {hr : AHr} {n : Nat} {Q : ARs → Prop} (x0 : Nat) : Tm E m (o_call 321 :: is) ls (.ref x0 :: st) hi hr n Q ↔ (a_kd x0 = 11 ∧ x0 < n ∧ st.length ≤ 4) ∧ Sp E 321 [.ref x0] hi hr n (fun r => Tm E m is ls (r.1.toList ++ st) r.2.1 r.2.2.1 r.2.2.2 Q) := T_cI [] rfl rfl rfl rfl
/-! CartoonHouseModel.clear()I -/
theorem k322_0 : a_bl 322 0 = [o_al 0, o_getI 11 82, o_is 1, o_al 0, o_I (J 0), o_putI 11 82, o_il 1, o_ret 1] := rfl
theorem k322_r : a_rt 322 = (some .int) := rfl
theorem k322_s {E : AEn} {hi : AHi} {hr : AHr} {n : Nat} {Q : ARs → Prop} (x0 : Nat) : Sp E 322 [.ref x0] hi hr n Q ↔ Tm E 322 (a_bl 322 0) [.ref x0, a_mk] [] hi hr n Q := Iff.rfl
theorem K322 : (type_of% k322_0) ∧ (type_of% k322_r) ∧ (type_of% @k322_s) := ⟨k322_0, k322_r, @k322_s⟩
theorem c322 {m : Nat} {is : List AOp} {ls st : List Value} {E : AEn} {hi : AHi} {hr : AHr} {n : Nat} {Q : ARs → Prop} (x0 : Nat) : Tm E m (o_call 322 :: is) ls (.ref x0 :: st) hi hr n Q ↔ (a_kd x0 = 11 ∧ x0 < n ∧ st.length ≤ 4) ∧ Sp E 322 [.ref x0] hi hr n (fun r => Tm E m is ls (r.1.toList ++ st) r.2.1 r.2.2.1 r.2.2.2 Q) := T_cI [] rfl rfl rfl rfl
/-! CartoonHouseModel.sample(IIII)I -/
theorem k323_0 : a_bl 323 0 = [o_al 0, o_il 1, o_call 324, o_if 0 1, o_il 2, o_call 287, o_if 0 1, o_il 3, o_il 4, o_call 237, o_if 1 2, o_ft 1] := rfl
theorem k323_1 : a_bl 323 1 = [o_I (J (-1)), o_ret 1] := rfl
theorem k323_2 : a_bl 323 2 = [o_al 0, o_il 1, o_il 2, o_call 325, o_al 0, o_getR 11 86, o_I (J 1536), o_il 1, o_bin 2, o_I (J 48), o_il 4, o_bin 2, o_bin 0, o_il 3, o_bin 0, o_iald, o_ret 1] := rfl
theorem k323_r : a_rt 323 = (some .int) := rfl
theorem k323_s {E : AEn} {hi : AHi} {hr : AHr} {n : Nat} {Q : ARs → Prop} (x0 : Nat) (x1 : Int32) (x2 : Int32) (x3 : Int32) (x4 : Int32) : Sp E 323 [.ref x0, .int x1, .int x2, .int x3, .int x4] hi hr n Q ↔ Tm E 323 (a_bl 323 0) [.ref x0, .int x1, .int x2, .int x3, .int x4] [] hi hr n Q := Iff.rfl
theorem K323 : (type_of% k323_0) ∧ (type_of% k323_1) ∧ (type_of% k323_2) ∧ (type_of% k323_r) ∧ (type_of% @k323_s) := ⟨k323_0, k323_1, k323_2, k323_r, @k323_s⟩
theorem c323 {m : Nat} {is : List AOp} {ls st : List Value} {E : AEn} {hi : AHi} {hr : AHr} {n : Nat} {Q : ARs → Prop} (x0 : Nat) (x1 : Int32) (x2 : Int32) (x3 : Int32) (x4 : Int32) : Tm E m (o_call 323 :: is) ls (.int x4 :: .int x3 :: .int x2 :: .int x1 :: .ref x0 :: st) hi hr n Q ↔ (a_kd x0 = 11 ∧ x0 < n ∧ st.length ≤ 4) ∧ Sp E 323 [.ref x0, .int x1, .int x2, .int x3, .int x4] hi hr n (fun r => Tm E m is ls (r.1.toList ++ st) r.2.1 r.2.2.1 r.2.2.2 Q) := T_cI [.int x1, .int x2, .int x3, .int x4] rfl rfl rfl rfl
/-! CartoonHouseModel.isNode(I)Z -/
theorem k324_0 : a_bl 324 0 = [o_il 1, o_I (J 0), o_al 0, o_getI 11 82, o_I (J 1), o_bin 1, o_call 219, o_ret 1] := rfl
theorem k324_r : a_rt 324 = (some .boolean) := rfl
theorem k324_s {E : AEn} {hi : AHi} {hr : AHr} {n : Nat} {Q : ARs → Prop} (x0 : Nat) (x1 : Int32) : Sp E 324 [.ref x0, .int x1] hi hr n Q ↔ Tm E 324 (a_bl 324 0) [.ref x0, .int x1] [] hi hr n Q := Iff.rfl
theorem K324 : (type_of% k324_0) ∧ (type_of% k324_r) ∧ (type_of% @k324_s) := ⟨k324_0, k324_r, @k324_s⟩
theorem c324 {m : Nat} {is : List AOp} {ls st : List Value} {E : AEn} {hi : AHi} {hr : AHr} {n : Nat} {Q : ARs → Prop} (x0 : Nat) (x1 : Int32) : Tm E m (o_call 324 :: is) ls (.int x1 :: .ref x0 :: st) hi hr n Q ↔ (a_kd x0 = 11 ∧ x0 < n ∧ st.length ≤ 4) ∧ Sp E 324 [.ref x0, .int x1] hi hr n (fun r => Tm E m is ls (r.1.toList ++ st) r.2.1 r.2.2.1 r.2.2.2 Q) := T_cI [.int x1] rfl rfl rfl rfl
/-! CartoonHouseModel.shoots(II)V -/
theorem k325_0 : a_bl 325 0 = [o_I (J 0), o_is 3, o_ft 1] := rfl
theorem k325_1 : a_bl 325 1 = [o_il 3, o_il 1, o_ic 4 2, o_al 0, o_il 3, o_il 2, o_call 326, o_iinc 3 (J 1), o_goto 1] := rfl
theorem k325_2 : a_bl 325 2 = [o_ret 0] := rfl
theorem k325_r : a_rt 325 = none := rfl
theorem k325_s {E : AEn} {hi : AHi} {hr : AHr} {n : Nat} {Q : ARs → Prop} (x0 : Nat) (x1 : Int32) (x2 : Int32) : Sp E 325 [.ref x0, .int x1, .int x2] hi hr n Q ↔ Tm E 325 (a_bl 325 0) [.ref x0, .int x1, .int x2, a_mk] [] hi hr n Q := Iff.rfl
theorem K325 : (type_of% k325_0) ∧ (type_of% k325_2) ∧ (type_of% k325_r) ∧ (type_of% @k325_s) := ⟨k325_0, k325_2, k325_r, @k325_s⟩
theorem c325 {m : Nat} {is : List AOp} {ls st : List Value} {E : AEn} {hi : AHi} {hr : AHr} {n : Nat} {Q : ARs → Prop} (x0 : Nat) (x1 : Int32) (x2 : Int32) : Tm E m (o_call 325 :: is) ls (.int x2 :: .int x1 :: .ref x0 :: st) hi hr n Q ↔ (a_kd x0 = 11 ∧ x0 < n ∧ st.length ≤ 4) ∧ Sp E 325 [.ref x0, .int x1, .int x2] hi hr n (fun r => Tm E m is ls (r.1.toList ++ st) r.2.1 r.2.2.1 r.2.2.2 Q) := T_cI [.int x1, .int x2] rfl rfl rfl rfl
/-! CartoonHouseModel.works(II)V -/
theorem k326_0 : a_bl 326 0 = [o_I (J 6), o_il 1, o_bin 2, o_is 3, o_I (J 1536), o_il 1, o_bin 2, o_is 4, o_I (J 1536), o_al 0, o_getR 11 84, o_il 3, o_iald, o_bin 2, o_is 5, o_I (J 1536), o_al 0, o_getR 11 84, o_il 3, o_I (J 1), o_bin 0, o_iald, o_bin 2, o_is 6, o_al 0, o_getR 11 83, o_il 1, o_iald, o_is 7, o_I (J 0), o_is 8, o_il 7, o_I (J 1), o_ic 1 3, o_al 0, o_il 2, o_call 310, o_al 0, o_al 0, o_getR 11 84, o_il 3, o_iald, o_il 2, o_call 268, o_is 9, o_il 9, o_if 2 1, o_I (J 1), o_goto 2] := rfl
theorem k326_1 : a_bl 326 1 = [o_I (J 0), o_ft 2] := rfl
theorem k326_2 : a_bl 326 2 = [o_is 8, o_il 8, o_if 0 3, o_al 0, o_il 9, o_al 0, o_getR 11 84, o_il 3, o_iald, o_il 2, o_call 261, o_ft 3] := rfl
theorem k326_3 : a_bl 326 3 = [o_I (J 0), o_is 9, o_ft 4] := rfl
theorem k326_4 : a_bl 326 4 = [o_il 9, o_I (J 1536), o_ic 3 22, o_il 9, o_I (J 48), o_bin 10, o_is 10, o_il 9, o_I (J 48), o_bin 9, o_is 11, o_I (J (-1)), o_is 12, o_il 7, o_if 1 5, o_al 0, o_getR 11 84, o_il 3, o_iald, o_is 12, o_goto 21] := rfl
theorem k326_5 : a_bl 326 5 = [o_il 7, o_I (J 1), o_ic 1 10, o_al 0, o_al 0, o_getR 11 84, o_il 3, o_iald, o_il 10, o_call 312, o_is 13, o_al 0, o_al 0, o_getR 11 84, o_il 3, o_iald, o_il 11, o_call 313, o_is 14, o_il 8, o_if 0 6, o_il 13, o_il 14, o_call 237, o_if 0 6, o_al 0, o_getR 11 30, o_I (J 48), o_il 14, o_bin 2, o_il 13, o_bin 0, o_iald, o_goto 7] := rfl
theorem k326_6 : a_bl 326 6 = [o_I (J 0), o_ft 7] := rfl
theorem k326_7 : a_bl 326 7 = [o_is 15, o_il 15, o_if 5 8, o_al 0, o_getR 11 38, o_I (J 16), o_al 0, o_getR 11 84, o_il 3, o_I (J 1), o_bin 0, o_iald, o_bin 2, o_il 15, o_bin 0, o_iald, o_goto 9] := rfl
theorem k326_8 : a_bl 326 8 = [o_I (J (-1)), o_ft 9] := rfl
theorem k326_9 : a_bl 326 9 = [o_is 12, o_goto 21] := rfl
theorem k326_10 : a_bl 326 10 = [o_il 7, o_I (J 2), o_ic 1 13, o_al 0, o_getR 11 86, o_il 5, o_il 9, o_bin 0, o_iald, o_I (J (-1)), o_ic 0 11, o_al 0, o_getR 11 86, o_il 5, o_il 9, o_bin 0, o_iald, o_goto 12] := rfl
theorem k326_11 : a_bl 326 11 = [o_al 0, o_getR 11 86, o_il 6, o_il 9, o_bin 0, o_iald, o_ft 12] := rfl
theorem k326_12 : a_bl 326 12 = [o_is 12, o_goto 21] := rfl
theorem k326_13 : a_bl 326 13 = [o_il 7, o_I (J 3), o_ic 1 16, o_il 10, o_al 0, o_getR 11 84, o_il 3, o_I (J 1), o_bin 0, o_iald, o_bin 1, o_is 13, o_il 11, o_al 0, o_getR 11 84, o_il 3, o_I (J 2), o_bin 0, o_iald, o_bin 1, o_is 14, o_il 13, o_il 14, o_call 237, o_if 0 14, o_al 0, o_getR 11 86, o_il 5, o_I (J 48), o_il 14, o_bin 2, o_bin 0, o_il 13, o_bin 0, o_iald, o_goto 15] := rfl
theorem k326_14 : a_bl 326 14 = [o_I (J (-1)), o_ft 15] := rfl
theorem k326_15 : a_bl 326 15 = [o_is 12, o_goto 21] := rfl
theorem k326_16 : a_bl 326 16 = [o_il 7, o_I (J 4), o_ic 1 19, o_al 0, o_getR 11 86, o_il 6, o_il 9, o_bin 0, o_iald, o_I (J (-1)), o_ic 0 17, o_al 0, o_getR 11 86, o_il 5, o_il 9, o_bin 0, o_iald, o_goto 18] := rfl
theorem k326_17 : a_bl 326 17 = [o_I (J (-1)), o_ft 18] := rfl
theorem k326_18 : a_bl 326 18 = [o_is 12, o_goto 21] := rfl
theorem k326_19 : a_bl 326 19 = [o_il 7, o_I (J 5), o_ic 1 20, o_al 0, o_getR 11 84, o_il 3, o_I (J 3), o_bin 0, o_iald, o_al 0, o_getR 11 84, o_il 3, o_I (J 2), o_bin 0, o_iald, o_bin 1, o_is 13, o_al 0, o_al 0, o_getR 11 86, o_il 5, o_il 9, o_bin 0, o_iald, o_al 0, o_getR 11 86, o_il 6, o_il 9, o_bin 0, o_iald, o_il 2, o_al 0, o_getR 11 84, o_il 3, o_I (J 2), o_bin 0, o_iald, o_bin 1, o_il 13, o_call 253, o_il 13, o_call 327, o_is 12, o_goto 21] := rfl
theorem k326_20 : a_bl 326 20 = [o_il 7, o_I (J 6), o_ic 1 21, o_al 0, o_al 0, o_getR 11 84, o_il 3, o_iald, o_il 10, o_il 11, o_call 329, o_is 12, o_ft 21] := rfl
theorem k326_21 : a_bl 326 21 = [o_al 0, o_getR 11 86, o_il 4, o_il 9, o_bin 0, o_il 12, o_iast, o_iinc 9 (J 1), o_goto 4] := rfl
theorem k326_22 : a_bl 326 22 = [o_I (J 0), o_is 9, o_ft 23] := rfl
theorem k326_23 : a_bl 326 23 = [o_il 7, o_I (J 7), o_ic 1 26, o_il 9, o_al 0, o_getR 11 84, o_il 3, o_I (J 3), o_bin 0, o_iald, o_ic 3 26, o_il 2, o_il 9, o_bin 1, o_is 10, o_il 10, o_I (J 0), o_I (J 23), o_call 219, o_if 1 24, o_goto 25] := rfl
theorem k326_24 : a_bl 326 24 = [o_al 0, o_getR 11 84, o_il 3, o_iald, o_il 9, o_I (J 1), o_I (J 0), o_I (J 0), o_call 252, o_I (J 8), o_bin 8, o_I (J 17), o_bin 10, o_I (J 8), o_bin 1, o_is 11, o_al 0, o_getR 11 84, o_il 3, o_iald, o_il 9, o_I (J 2), o_I (J 0), o_I (J 0), o_call 252, o_I (J 8), o_bin 8, o_I (J 33), o_bin 10, o_I (J 24), o_bin 1, o_is 12, o_al 0, o_getR 11 84, o_il 3, o_I (J 1), o_bin 0, o_iald, o_il 11, o_un 1, o_il 10, o_un 1, o_binL 2, o_L (L 4), o_call 244, o_un 2, o_bin 0, o_is 13, o_al 0, o_getR 11 84, o_il 3, o_I (J 2), o_bin 0, o_iald, o_il 12, o_un 1, o_il 10, o_un 1, o_binL 2, o_il 10, o_un 1, o_il 10, o_un 1, o_binL 2, o_binL 0, o_L (L 8), o_call 244, o_un 2, o_bin 0, o_is 14, o_il 13, o_il 14, o_call 237, o_if 0 25, o_al 0, o_getR 11 86, o_il 4, o_I (J 48), o_il 14, o_bin 2, o_bin 0, o_il 13, o_bin 0, o_al 0, o_getR 11 84, o_il 3, o_I (J 4), o_bin 0, o_iald, o_iast, o_ft 25] := rfl
theorem k326_25 : a_bl 326 25 = [o_iinc 9 (J 1), o_goto 23] := rfl
theorem k326_26 : a_bl 326 26 = [o_ret 0] := rfl
theorem k326_r : a_rt 326 = none := rfl
theorem k326_s {E : AEn} {hi : AHi} {hr : AHr} {n : Nat} {Q : ARs → Prop} (x0 : Nat) (x1 : Int32) (x2 : Int32) : Sp E 326 [.ref x0, .int x1, .int x2] hi hr n Q ↔ Tm E 326 (a_bl 326 0) [.ref x0, .int x1, .int x2, a_mk, a_mk, a_mk, a_mk, a_mk, a_mk, a_mk, a_mk, a_mk, a_mk, a_mk, a_mk, a_mk] [] hi hr n Q := Iff.rfl
theorem K326 : (type_of% k326_0) ∧ (type_of% k326_1) ∧ (type_of% k326_2) ∧ (type_of% k326_3) ∧ (type_of% k326_5) ∧ (type_of% k326_6) ∧ (type_of% k326_7) ∧ (type_of% k326_8) ∧ (type_of% k326_9) ∧ (type_of% k326_10) ∧ (type_of% k326_11) ∧ (type_of% k326_12) ∧ (type_of% k326_13) ∧ (type_of% k326_14) ∧ (type_of% k326_15) ∧ (type_of% k326_16) ∧ (type_of% k326_17) ∧ (type_of% k326_18) ∧ (type_of% k326_19) ∧ (type_of% k326_20) ∧ (type_of% k326_21) ∧ (type_of% k326_22) ∧ (type_of% k326_24) ∧ (type_of% k326_25) ∧ (type_of% k326_26) ∧ (type_of% k326_r) ∧ (type_of% @k326_s) := ⟨k326_0, k326_1, k326_2, k326_3, k326_5, k326_6, k326_7, k326_8, k326_9, k326_10, k326_11, k326_12, k326_13, k326_14, k326_15, k326_16, k326_17, k326_18, k326_19, k326_20, k326_21, k326_22, k326_24, k326_25, k326_26, k326_r, @k326_s⟩
theorem c326 {m : Nat} {is : List AOp} {ls st : List Value} {E : AEn} {hi : AHi} {hr : AHr} {n : Nat} {Q : ARs → Prop} (x0 : Nat) (x1 : Int32) (x2 : Int32) : Tm E m (o_call 326 :: is) ls (.int x2 :: .int x1 :: .ref x0 :: st) hi hr n Q ↔ (a_kd x0 = 11 ∧ x0 < n ∧ st.length ≤ 4) ∧ Sp E 326 [.ref x0, .int x1, .int x2] hi hr n (fun r => Tm E m is ls (r.1.toList ++ st) r.2.1 r.2.2.1 r.2.2.2 Q) := T_cI [.int x1, .int x2] rfl rfl rfl rfl
/-! CartoonHouseModel.faded(IIII)I -/
theorem k327_0 : a_bl 327 0 = [o_il 1, o_I (J (-1)), o_ic 0 1, o_il 2, o_I (J (-1)), o_ic 0 1, o_il 1, o_il 2, o_il 3, o_il 4, o_call 328, o_ret 1] := rfl
theorem k327_1 : a_bl 327 1 = [o_I (J 2), o_il 3, o_bin 2, o_il 4, o_ic 3 2, o_il 1, o_ret 1] := rfl
theorem k327_2 : a_bl 327 2 = [o_il 2, o_ret 1] := rfl
theorem k327_r : a_rt 327 = (some .int) := rfl
theorem k327_s {E : AEn} {hi : AHi} {hr : AHr} {n : Nat} {Q : ARs → Prop} (x0 : Nat) (x1 : Int32) (x2 : Int32) (x3 : Int32) (x4 : Int32) : Sp E 327 [.ref x0, .int x1, .int x2, .int x3, .int x4] hi hr n Q ↔ Tm E 327 (a_bl 327 0) [.ref x0, .int x1, .int x2, .int x3, .int x4] [] hi hr n Q := Iff.rfl
theorem K327 : (type_of% k327_0) ∧ (type_of% k327_1) ∧ (type_of% k327_2) ∧ (type_of% k327_r) ∧ (type_of% @k327_s) := ⟨k327_0, k327_1, k327_2, k327_r, @k327_s⟩
theorem c327 {m : Nat} {is : List AOp} {ls st : List Value} {E : AEn} {hi : AHi} {hr : AHr} {n : Nat} {Q : ARs → Prop} (x0 : Nat) (x1 : Int32) (x2 : Int32) (x3 : Int32) (x4 : Int32) : Tm E m (o_call 327 :: is) ls (.int x4 :: .int x3 :: .int x2 :: .int x1 :: .ref x0 :: st) hi hr n Q ↔ (a_kd x0 = 11 ∧ x0 < n ∧ st.length ≤ 4) ∧ Sp E 327 [.ref x0, .int x1, .int x2, .int x3, .int x4] hi hr n (fun r => Tm E m is ls (r.1.toList ++ st) r.2.1 r.2.2.1 r.2.2.2 Q) := T_cI [.int x1, .int x2, .int x3, .int x4] rfl rfl rfl rfl
/-! CartoonHouseModel.mix3(IIII)I -/
theorem k328_0 : a_bl 328 0 = [o_I (J 0), o_is 4, o_I (J 16), o_is 5, o_ft 1] := rfl
theorem k328_1 : a_bl 328 1 = [o_il 5, o_if 2 2, o_il 4, o_I (J 8), o_bin 6, o_il 0, o_il 5, o_bin 7, o_I (J 255), o_bin 3, o_un 1, o_il 3, o_il 2, o_bin 1, o_un 1, o_binL 2, o_il 1, o_il 5, o_bin 7, o_I (J 255), o_bin 3, o_un 1, o_il 2, o_un 1, o_binL 2, o_binL 0, o_il 3, o_un 1, o_call 243, o_bin 4, o_is 4, o_iinc 5 (J (-8)), o_goto 1] := rfl
theorem k328_2 : a_bl 328 2 = [o_il 4, o_ret 1] := rfl
theorem k328_r : a_rt 328 = (some .int) := rfl
theorem k328_s {E : AEn} {hi : AHi} {hr : AHr} {n : Nat} {Q : ARs → Prop} (x0 : Int32) (x1 : Int32) (x2 : Int32) (x3 : Int32) : Sp E 328 [.int x0, .int x1, .int x2, .int x3] hi hr n Q ↔ Tm E 328 (a_bl 328 0) [.int x0, .int x1, .int x2, .int x3, a_mk, a_mk] [] hi hr n Q := Iff.rfl
theorem K328 : (type_of% k328_0) ∧ (type_of% k328_2) ∧ (type_of% k328_r) ∧ (type_of% @k328_s) := ⟨k328_0, k328_2, k328_r, @k328_s⟩
theorem c328 {m : Nat} {is : List AOp} {ls st : List Value} {E : AEn} {hi : AHi} {hr : AHr} {n : Nat} {Q : ARs → Prop} (x0 : Int32) (x1 : Int32) (x2 : Int32) (x3 : Int32) : Tm E m (o_call 328 :: is) ls (.int x3 :: .int x2 :: .int x1 :: .int x0 :: st) hi hr n Q ↔ st.length ≤ 4 ∧ Sp E 328 [.int x0, .int x1, .int x2, .int x3] hi hr n (fun r => Tm E m is ls (r.1.toList ++ st) r.2.1 r.2.2.1 r.2.2.2 Q) := T_cS [.int x0, .int x1, .int x2, .int x3] rfl rfl
/-! CartoonHouseModel.blurred(III)I -/
theorem k329_0 : a_bl 329 0 = [o_al 0, o_getR 11 86, o_I (J 1536), o_il 1, o_bin 2, o_I (J 48), o_il 3, o_bin 2, o_bin 0, o_il 2, o_bin 0, o_iald, o_I (J (-1)), o_ic 1 1, o_I (J (-1)), o_ret 1] := rfl
theorem k329_1 : a_bl 329 1 = [o_I (J 0), o_is 4, o_I (J 0), o_is 5, o_I (J 0), o_is 6, o_I (J 0), o_is 7, o_il 3, o_I (J 1), o_bin 1, o_is 8, o_ft 2] := rfl
theorem k329_2 : a_bl 329 2 = [o_il 8, o_il 3, o_I (J 1), o_bin 0, o_ic 4 9, o_il 2, o_I (J 1), o_bin 1, o_is 9, o_ft 3] := rfl
theorem k329_3 : a_bl 329 3 = [o_il 9, o_il 2, o_I (J 1), o_bin 0, o_ic 4 8, o_il 9, o_il 8, o_call 237, o_if 0 4, o_al 0, o_getR 11 86, o_I (J 1536), o_il 1, o_bin 2, o_I (J 48), o_il 8, o_bin 2, o_bin 0, o_il 9, o_bin 0, o_iald, o_goto 5] := rfl
theorem k329_4 : a_bl 329 4 = [o_I (J (-1)), o_ft 5] := rfl
theorem k329_5 : a_bl 329 5 = [o_is 10, o_il 10, o_I (J (-1)), o_ic 1 6, o_goto 7] := rfl
theorem k329_6 : a_bl 329 6 = [o_iinc 4 (J 1), o_il 5, o_il 10, o_I (J 16), o_bin 7, o_bin 0, o_is 5, o_il 6, o_il 10, o_I (J 8), o_bin 7, o_I (J 255), o_bin 3, o_bin 0, o_is 6, o_il 7, o_il 10, o_I (J 255), o_bin 3, o_bin 0, o_is 7, o_ft 7] := rfl
theorem k329_7 : a_bl 329 7 = [o_iinc 9 (J 1), o_goto 3] := rfl
theorem k329_8 : a_bl 329 8 = [o_iinc 8 (J 1), o_goto 2] := rfl
theorem k329_9 : a_bl 329 9 = [o_il 5, o_un 1, o_il 4, o_un 1, o_call 243, o_I (J 16), o_bin 6, o_il 6, o_un 1, o_il 4, o_un 1, o_call 243, o_I (J 8), o_bin 6, o_bin 4, o_il 7, o_un 1, o_il 4, o_un 1, o_call 243, o_bin 4, o_ret 1] := rfl
theorem k329_r : a_rt 329 = (some .int) := rfl
theorem k329_s {E : AEn} {hi : AHi} {hr : AHr} {n : Nat} {Q : ARs → Prop} (x0 : Nat) (x1 : Int32) (x2 : Int32) (x3 : Int32) : Sp E 329 [.ref x0, .int x1, .int x2, .int x3] hi hr n Q ↔ Tm E 329 (a_bl 329 0) [.ref x0, .int x1, .int x2, .int x3, a_mk, a_mk, a_mk, a_mk, a_mk, a_mk, a_mk] [] hi hr n Q := Iff.rfl
theorem K329 : (type_of% k329_0) ∧ (type_of% k329_1) ∧ (type_of% k329_4) ∧ (type_of% k329_5) ∧ (type_of% k329_6) ∧ (type_of% k329_7) ∧ (type_of% k329_8) ∧ (type_of% k329_9) ∧ (type_of% k329_r) ∧ (type_of% @k329_s) := ⟨k329_0, k329_1, k329_4, k329_5, k329_6, k329_7, k329_8, k329_9, k329_r, @k329_s⟩
theorem c329 {m : Nat} {is : List AOp} {ls st : List Value} {E : AEn} {hi : AHi} {hr : AHr} {n : Nat} {Q : ARs → Prop} (x0 : Nat) (x1 : Int32) (x2 : Int32) (x3 : Int32) : Tm E m (o_call 329 :: is) ls (.int x3 :: .int x2 :: .int x1 :: .ref x0 :: st) hi hr n Q ↔ (a_kd x0 = 11 ∧ x0 < n ∧ st.length ≤ 4) ∧ Sp E 329 [.ref x0, .int x1, .int x2, .int x3] hi hr n (fun r => Tm E m is ls (r.1.toList ++ st) r.2.1 r.2.2.1 r.2.2.2 Q) := T_cI [.int x1, .int x2, .int x3] rfl rfl rfl rfl
/-! CartoonHouseModel.drawn(II)I -/
theorem k330_0 : a_bl 330 0 = [o_al 0, o_il 1, o_call 324, o_if 0 1, o_il 2, o_call 287, o_if 1 2, o_ft 1] := rfl
theorem k330_1 : a_bl 330 1 = [o_I (J (-1)), o_ret 1] := rfl
theorem k330_2 : a_bl 330 2 = [o_al 0, o_il 1, o_il 2, o_call 325, o_I (J 0), o_is 3, o_I (J 0), o_is 4, o_ft 3] := rfl
theorem k330_3 : a_bl 330 3 = [o_il 4, o_I (J 1536), o_ic 3 6, o_il 3, o_al 0, o_getR 11 86, o_I (J 1536), o_il 1, o_bin 2, o_il 4, o_bin 0, o_iald, o_I (J (-1)), o_ic 0 4, o_I (J 1), o_goto 5] := rfl
theorem k330_4 : a_bl 330 4 = [o_I (J 0), o_ft 5] := rfl
theorem k330_5 : a_bl 330 5 = [o_bin 0, o_is 3, o_iinc 4 (J 1), o_goto 3] := rfl
theorem k330_6 : a_bl 330 6 = [o_il 3, o_ret 1] := rfl
theorem k330_r : a_rt 330 = (some .int) := rfl
theorem k330_s {E : AEn} {hi : AHi} {hr : AHr} {n : Nat} {Q : ARs → Prop} (x0 : Nat) (x1 : Int32) (x2 : Int32) : Sp E 330 [.ref x0, .int x1, .int x2] hi hr n Q ↔ Tm E 330 (a_bl 330 0) [.ref x0, .int x1, .int x2, a_mk, a_mk] [] hi hr n Q := Iff.rfl
theorem K330 : (type_of% k330_0) ∧ (type_of% k330_1) ∧ (type_of% k330_2) ∧ (type_of% k330_4) ∧ (type_of% k330_5) ∧ (type_of% k330_6) ∧ (type_of% k330_r) ∧ (type_of% @k330_s) := ⟨k330_0, k330_1, k330_2, k330_4, k330_5, k330_6, k330_r, @k330_s⟩
theorem c330 {m : Nat} {is : List AOp} {ls st : List Value} {E : AEn} {hi : AHi} {hr : AHr} {n : Nat} {Q : ARs → Prop} (x0 : Nat) (x1 : Int32) (x2 : Int32) : Tm E m (o_call 330 :: is) ls (.int x2 :: .int x1 :: .ref x0 :: st) hi hr n Q ↔ (a_kd x0 = 11 ∧ x0 < n ∧ st.length ≤ 4) ∧ Sp E 330 [.ref x0, .int x1, .int x2] hi hr n (fun r => Tm E m is ls (r.1.toList ++ st) r.2.1 r.2.2.1 r.2.2.2 Q) := T_cI [.int x1, .int x2] rfl rfl rfl rfl
/-! CartoonHouseModel.film(III)I -/
theorem k331_0 : a_bl 331 0 = [o_al 0, o_il 1, o_call 324, o_if 0 1, o_il 2, o_call 287, o_if 0 1, o_il 3, o_call 287, o_if 0 1, o_il 3, o_il 2, o_ic 2 1, o_il 3, o_il 2, o_bin 1, o_I (J 7), o_ic 5 2, o_ft 1] := rfl
theorem k331_1 : a_bl 331 1 = [o_I (J (-1)), o_ret 1] := rfl
theorem k331_2 : a_bl 331 2 = [o_al 0, o_il 3, o_il 2, o_bin 1, o_I (J 1), o_bin 0, o_putI 11 87, o_al 0, o_I (J 0), o_putI 11 7, o_I (J 0), o_is 4, o_ft 3] := rfl
theorem k331_3 : a_bl 331 3 = [o_il 4, o_I (J 1536), o_ic 3 4, o_al 0, o_getR 11 90, o_il 4, o_I (J (-1)), o_iast, o_iinc 4 (J 1), o_goto 3] := rfl
theorem k331_4 : a_bl 331 4 = [o_I (J 0), o_is 4, o_ft 5] := rfl
theorem k331_5 : a_bl 331 5 = [o_il 4, o_al 0, o_getI 11 87, o_ic 3 10, o_al 0, o_il 1, o_il 2, o_il 4, o_bin 0, o_call 325, o_I (J 0), o_is 5, o_ft 6] := rfl
theorem k331_6 : a_bl 331 6 = [o_il 5, o_I (J 1536), o_ic 3 7, o_al 0, o_getR 11 89, o_I (J 1536), o_il 4, o_bin 2, o_il 5, o_bin 0, o_al 0, o_getR 11 86, o_I (J 1536), o_il 1, o_bin 2, o_il 5, o_bin 0, o_iald, o_iast, o_iinc 5 (J 1), o_goto 6] := rfl
theorem k331_7 : a_bl 331 7 = [o_al 0, o_I (J 1536), o_il 4, o_bin 2, o_call 332, o_I (J 0), o_is 5, o_ft 8] := rfl
theorem k331_8 : a_bl 331 8 = [o_il 5, o_I (J 1536), o_ic 3 9, o_al 0, o_getR 11 90, o_il 5, o_al 0, o_getR 11 89, o_I (J 1536), o_il 4, o_bin 2, o_il 5, o_bin 0, o_iald, o_iast, o_iinc 5 (J 1), o_goto 8] := rfl
theorem k331_9 : a_bl 331 9 = [o_iinc 4 (J 1), o_goto 5] := rfl
theorem k331_10 : a_bl 331 10 = [o_al 0, o_al 0, o_getI 11 7, o_putI 11 88, o_al 0, o_getI 11 7, o_ret 1] := rfl
theorem k331_r : a_rt 331 = (some .int) := rfl
theorem k331_s {E : AEn} {hi : AHi} {hr : AHr} {n : Nat} {Q : ARs → Prop} (x0 : Nat) (x1 : Int32) (x2 : Int32) (x3 : Int32) : Sp E 331 [.ref x0, .int x1, .int x2, .int x3] hi hr n Q ↔ Tm E 331 (a_bl 331 0) [.ref x0, .int x1, .int x2, .int x3, a_mk, a_mk] [] hi hr n Q := Iff.rfl
theorem K331 : (type_of% k331_0) ∧ (type_of% k331_1) ∧ (type_of% k331_2) ∧ (type_of% k331_4) ∧ (type_of% k331_7) ∧ (type_of% k331_9) ∧ (type_of% k331_10) ∧ (type_of% k331_r) ∧ (type_of% @k331_s) := ⟨k331_0, k331_1, k331_2, k331_4, k331_7, k331_9, k331_10, k331_r, @k331_s⟩
theorem c331 {m : Nat} {is : List AOp} {ls st : List Value} {E : AEn} {hi : AHi} {hr : AHr} {n : Nat} {Q : ARs → Prop} (x0 : Nat) (x1 : Int32) (x2 : Int32) (x3 : Int32) : Tm E m (o_call 331 :: is) ls (.int x3 :: .int x2 :: .int x1 :: .ref x0 :: st) hi hr n Q ↔ (a_kd x0 = 11 ∧ x0 < n ∧ st.length ≤ 4) ∧ Sp E 331 [.ref x0, .int x1, .int x2, .int x3] hi hr n (fun r => Tm E m is ls (r.1.toList ++ st) r.2.1 r.2.2.1 r.2.2.2 Q) := T_cI [.int x1, .int x2, .int x3] rfl rfl rfl rfl
/-! CartoonHouseModel.writesFrame(I)V -/
theorem k332_0 : a_bl 332 0 = [o_I (J 0), o_is 2, o_ft 1] := rfl
theorem k332_1 : a_bl 332 1 = [o_il 2, o_I (J 1536), o_ic 3 10, o_I (J 0), o_is 3, o_ft 2] := rfl
theorem k332_2 : a_bl 332 2 = [o_il 2, o_I (J 1536), o_ic 3 3, o_il 3, o_I (J 255), o_ic 3 3, o_al 0, o_getR 11 89, o_il 1, o_il 2, o_bin 0, o_iald, o_al 0, o_getR 11 90, o_il 2, o_iald, o_ic 1 3, o_iinc 3 (J 1), o_iinc 2 (J 1), o_goto 2] := rfl
theorem k332_3 : a_bl 332 3 = [o_I (J 0), o_is 4, o_ft 4] := rfl
theorem k332_4 : a_bl 332 4 = [o_il 2, o_il 4, o_bin 0, o_I (J 1536), o_ic 3 5, o_il 4, o_I (J 255), o_ic 3 5, o_al 0, o_getR 11 89, o_il 1, o_il 2, o_bin 0, o_il 4, o_bin 0, o_iald, o_al 0, o_getR 11 90, o_il 2, o_il 4, o_bin 0, o_iald, o_ic 0 5, o_iinc 4 (J 1), o_goto 4] := rfl
theorem k332_5 : a_bl 332 5 = [o_al 0, o_il 3, o_call 233, o_al 0, o_il 4, o_call 233, o_I (J 0), o_is 5, o_ft 6] := rfl
theorem k332_6 : a_bl 332 6 = [o_il 5, o_il 4, o_ic 3 9, o_al 0, o_getR 11 89, o_il 1, o_il 2, o_bin 0, o_iald, o_is 6, o_il 6, o_I (J (-1)), o_ic 1 7, o_al 0, o_I (J 0), o_call 233, o_goto 8] := rfl
theorem k332_7 : a_bl 332 7 = [o_al 0, o_I (J 1), o_call 233, o_al 0, o_il 6, o_I (J 16), o_bin 7, o_call 233, o_al 0, o_il 6, o_I (J 8), o_bin 7, o_I (J 255), o_bin 3, o_call 233, o_al 0, o_il 6, o_I (J 255), o_bin 3, o_call 233, o_ft 8] := rfl
theorem k332_8 : a_bl 332 8 = [o_iinc 2 (J 1), o_iinc 5 (J 1), o_goto 6] := rfl
theorem k332_9 : a_bl 332 9 = [o_goto 1] := rfl
theorem k332_10 : a_bl 332 10 = [o_ret 0] := rfl
theorem k332_r : a_rt 332 = none := rfl
theorem k332_s {E : AEn} {hi : AHi} {hr : AHr} {n : Nat} {Q : ARs → Prop} (x0 : Nat) (x1 : Int32) : Sp E 332 [.ref x0, .int x1] hi hr n Q ↔ Tm E 332 (a_bl 332 0) [.ref x0, .int x1, a_mk, a_mk, a_mk, a_mk, a_mk] [] hi hr n Q := Iff.rfl
theorem K332 : (type_of% k332_0) ∧ (type_of% k332_3) ∧ (type_of% k332_5) ∧ (type_of% k332_7) ∧ (type_of% k332_8) ∧ (type_of% k332_9) ∧ (type_of% k332_10) ∧ (type_of% k332_r) ∧ (type_of% @k332_s) := ⟨k332_0, k332_3, k332_5, k332_7, k332_8, k332_9, k332_10, k332_r, @k332_s⟩
theorem c332 {m : Nat} {is : List AOp} {ls st : List Value} {E : AEn} {hi : AHi} {hr : AHr} {n : Nat} {Q : ARs → Prop} (x0 : Nat) (x1 : Int32) : Tm E m (o_call 332 :: is) ls (.int x1 :: .ref x0 :: st) hi hr n Q ↔ (a_kd x0 = 11 ∧ x0 < n ∧ st.length ≤ 4) ∧ Sp E 332 [.ref x0, .int x1] hi hr n (fun r => Tm E m is ls (r.1.toList ++ st) r.2.1 r.2.2.1 r.2.2.2 Q) := T_cI [.int x1] rfl rfl rfl rfl
/-! CartoonHouseModel.played(III)I -/
theorem k333_0 : a_bl 333 0 = [o_il 1, o_I (J 0), o_al 0, o_getI 11 87, o_I (J 1), o_bin 1, o_call 219, o_if 0 1, o_il 2, o_il 3, o_call 237, o_if 1 2, o_ft 1] := rfl
theorem k333_1 : a_bl 333 1 = [o_I (J (-3)), o_ret 1] := rfl
theorem k333_2 : a_bl 333 2 = [o_al 0, o_getR 11 89, o_I (J 1536), o_il 1, o_bin 2, o_I (J 48), o_il 3, o_bin 2, o_bin 0, o_il 2, o_bin 0, o_iald, o_ret 1] := rfl
theorem k333_r : a_rt 333 = (some .int) := rfl
theorem k333_s {E : AEn} {hi : AHi} {hr : AHr} {n : Nat} {Q : ARs → Prop} (x0 : Nat) (x1 : Int32) (x2 : Int32) (x3 : Int32) : Sp E 333 [.ref x0, .int x1, .int x2, .int x3] hi hr n Q ↔ Tm E 333 (a_bl 333 0) [.ref x0, .int x1, .int x2, .int x3] [] hi hr n Q := Iff.rfl
theorem K333 : (type_of% k333_0) ∧ (type_of% k333_1) ∧ (type_of% k333_2) ∧ (type_of% k333_r) ∧ (type_of% @k333_s) := ⟨k333_0, k333_1, k333_2, k333_r, @k333_s⟩
theorem c333 {m : Nat} {is : List AOp} {ls st : List Value} {E : AEn} {hi : AHi} {hr : AHr} {n : Nat} {Q : ARs → Prop} (x0 : Nat) (x1 : Int32) (x2 : Int32) (x3 : Int32) : Tm E m (o_call 333 :: is) ls (.int x3 :: .int x2 :: .int x1 :: .ref x0 :: st) hi hr n Q ↔ (a_kd x0 = 11 ∧ x0 < n ∧ st.length ≤ 4) ∧ Sp E 333 [.ref x0, .int x1, .int x2, .int x3] hi hr n (fun r => Tm E m is ls (r.1.toList ++ st) r.2.1 r.2.2.1 r.2.2.2 Q) := T_cI [.int x1, .int x2, .int x3] rfl rfl rfl rfl
/-! CartoonHouseModel.flicker(II)I -/
theorem k334_0 : a_bl 334 0 = [o_al 0, o_il 1, o_call 324, o_if 0 1, o_il 2, o_I (J 1), o_I (J 118), o_call 219, o_if 1 2, o_ft 1] := rfl
theorem k334_1 : a_bl 334 1 = [o_I (J (-1)), o_ret 1] := rfl
theorem k334_2 : a_bl 334 2 = [o_al 0, o_il 1, o_il 2, o_I (J 1), o_bin 1, o_call 325, o_I (J 0), o_is 3, o_ft 3] := rfl
theorem k334_3 : a_bl 334 3 = [o_il 3, o_I (J 1536), o_ic 3 4, o_al 0, o_getR 11 90, o_il 3, o_al 0, o_getR 11 86, o_I (J 1536), o_il 1, o_bin 2, o_il 3, o_bin 0, o_iald, o_iast, o_iinc 3 (J 1), o_goto 3] := rfl
theorem k334_4 : a_bl 334 4 = [o_al 0, o_il 1, o_il 2, o_I (J 1), o_bin 0, o_call 325, o_I (J 0), o_is 3, o_ft 5] := rfl
theorem k334_5 : a_bl 334 5 = [o_il 3, o_I (J 1536), o_ic 3 6, o_al 0, o_getR 11 91, o_il 3, o_al 0, o_getR 11 86, o_I (J 1536), o_il 1, o_bin 2, o_il 3, o_bin 0, o_iald, o_iast, o_iinc 3 (J 1), o_goto 5] := rfl
theorem k334_6 : a_bl 334 6 = [o_al 0, o_il 1, o_il 2, o_call 325, o_I (J 0), o_is 3, o_I (J 0), o_is 4, o_ft 7] := rfl
theorem k334_7 : a_bl 334 7 = [o_il 4, o_I (J 1536), o_ic 3 10, o_il 3, o_al 0, o_getR 11 86, o_I (J 1536), o_il 1, o_bin 2, o_il 4, o_bin 0, o_iald, o_al 0, o_getR 11 90, o_il 4, o_iald, o_ic 0 8, o_al 0, o_getR 11 90, o_il 4, o_iald, o_al 0, o_getR 11 91, o_il 4, o_iald, o_ic 1 8, o_I (J 1), o_goto 9] := rfl
theorem k334_8 : a_bl 334 8 = [o_I (J 0), o_ft 9] := rfl
theorem k334_9 : a_bl 334 9 = [o_bin 0, o_is 3, o_iinc 4 (J 1), o_goto 7] := rfl
theorem k334_10 : a_bl 334 10 = [o_il 3, o_ret 1] := rfl
theorem k334_r : a_rt 334 = (some .int) := rfl
theorem k334_s {E : AEn} {hi : AHi} {hr : AHr} {n : Nat} {Q : ARs → Prop} (x0 : Nat) (x1 : Int32) (x2 : Int32) : Sp E 334 [.ref x0, .int x1, .int x2] hi hr n Q ↔ Tm E 334 (a_bl 334 0) [.ref x0, .int x1, .int x2, a_mk, a_mk] [] hi hr n Q := Iff.rfl
theorem K334 : (type_of% k334_0) ∧ (type_of% k334_1) ∧ (type_of% k334_2) ∧ (type_of% k334_4) ∧ (type_of% k334_6) ∧ (type_of% k334_8) ∧ (type_of% k334_9) ∧ (type_of% k334_10) ∧ (type_of% k334_r) ∧ (type_of% @k334_s) := ⟨k334_0, k334_1, k334_2, k334_4, k334_6, k334_8, k334_9, k334_10, k334_r, @k334_s⟩
theorem c334 {m : Nat} {is : List AOp} {ls st : List Value} {E : AEn} {hi : AHi} {hr : AHr} {n : Nat} {Q : ARs → Prop} (x0 : Nat) (x1 : Int32) (x2 : Int32) : Tm E m (o_call 334 :: is) ls (.int x2 :: .int x1 :: .ref x0 :: st) hi hr n Q ↔ (a_kd x0 = 11 ∧ x0 < n ∧ st.length ≤ 4) ∧ Sp E 334 [.ref x0, .int x1, .int x2] hi hr n (fun r => Tm E m is ls (r.1.toList ++ st) r.2.1 r.2.2.1 r.2.2.2 Q) := T_cI [.int x1, .int x2] rfl rfl rfl rfl
/-! CartoonHouseModel.track(II)I -/
theorem k335_0 : a_bl 335 0 = [o_al 0, o_call 217, o_il 1, o_I (J 0), o_I (J 2), o_call 219, o_if 0 1, o_il 2, o_I (J 0), o_I (J 999), o_call 219, o_if 1 2, o_ft 1] := rfl
theorem k335_1 : a_bl 335 1 = [o_I (J (-1)), o_ret 1] := rfl
theorem k335_2 : a_bl 335 2 = [o_I (J 0), o_is 3, o_al 0, o_getI 11 3, o_if 5 3, o_I (J 1), o_goto 4] := rfl
theorem k335_3 : a_bl 335 3 = [o_I (J 0), o_ft 4] := rfl
theorem k335_4 : a_bl 335 4 = [o_is 4, o_ft 5] := rfl
theorem k335_5 : a_bl 335 5 = [o_al 0, o_call 221, o_if 0 11, o_il 4, o_if 0 11, o_il 3, o_I (J 100), o_ic 1 6, o_al 0, o_al 0, o_getI 11 4, o_call 224, o_ft 6] := rfl
theorem k335_6 : a_bl 335 6 = [o_al 0, o_I (J 1), o_I (J (-100)), o_I (J 100), o_call 220, o_is 5, o_al 0, o_call 221, o_if 0 7, o_al 0, o_getR 11 95, o_il 3, o_il 5, o_iast, o_iinc 3 (J 1), o_ft 7] := rfl
theorem k335_7 : a_bl 335 7 = [o_al 0, o_getI 11 4, o_al 0, o_getI 11 3, o_ic 3 8, o_I (J 1), o_goto 9] := rfl
theorem k335_8 : a_bl 335 8 = [o_I (J 0), o_ft 9] := rfl
theorem k335_9 : a_bl 335 9 = [o_is 4, o_il 4, o_if 0 10, o_al 0, o_I (J 32), o_call 225, o_ft 10] := rfl
theorem k335_10 : a_bl 335 10 = [o_goto 5] := rfl
theorem k335_11 : a_bl 335 11 = [o_al 0, o_call 221, o_if 1 12, o_al 0, o_call 226, o_ret 1] := rfl
theorem k335_12 : a_bl 335 12 = [o_al 0, o_getR 11 93, o_il 1, o_il 3, o_iast, o_al 0, o_getR 11 94, o_il 1, o_il 2, o_iast, o_I (J 0), o_is 5, o_ft 13] := rfl
theorem k335_13 : a_bl 335 13 = [o_il 5, o_il 3, o_ic 3 14, o_al 0, o_getR 11 92, o_I (J 100), o_il 1, o_bin 2, o_il 5, o_bin 0, o_al 0, o_getR 11 95, o_il 5, o_iald, o_iast, o_iinc 5 (J 1), o_goto 13] := rfl
theorem k335_14 : a_bl 335 14 = [o_il 3, o_ret 1] := rfl
theorem k335_r : a_rt 335 = (some .int) := rfl
theorem k335_s {E : AEn} {hi : AHi} {hr : AHr} {n : Nat} {Q : ARs → Prop} (x0 : Nat) (x1 : Int32) (x2 : Int32) : Sp E 335 [.ref x0, .int x1, .int x2] hi hr n Q ↔ Tm E 335 (a_bl 335 0) [.ref x0, .int x1, .int x2, a_mk, a_mk, a_mk] [] hi hr n Q := Iff.rfl
theorem K335 : (type_of% k335_0) ∧ (type_of% k335_1) ∧ (type_of% k335_2) ∧ (type_of% k335_3) ∧ (type_of% k335_4) ∧ (type_of% k335_6) ∧ (type_of% k335_7) ∧ (type_of% k335_8) ∧ (type_of% k335_9) ∧ (type_of% k335_10) ∧ (type_of% k335_11) ∧ (type_of% k335_12) ∧ (type_of% k335_14) ∧ (type_of% k335_r) ∧ (type_of% @k335_s) := ⟨k335_0, k335_1, k335_2, k335_3, k335_4, k335_6, k335_7, k335_8, k335_9, k335_10, k335_11, k335_12, k335_14, k335_r, @k335_s⟩
theorem c335 {m : Nat} {is : List AOp} {ls st : List Value} {E : AEn} {hi : AHi} {hr : AHr} {n : Nat} {Q : ARs → Prop} (x0 : Nat) (x1 : Int32) (x2 : Int32) : Tm E m (o_call 335 :: is) ls (.int x2 :: .int x1 :: .ref x0 :: st) hi hr n Q ↔ (a_kd x0 = 11 ∧ x0 < n ∧ st.length ≤ 4) ∧ Sp E 335 [.ref x0, .int x1, .int x2] hi hr n (fun r => Tm E m is ls (r.1.toList ++ st) r.2.1 r.2.2.1 r.2.2.2 Q) := T_cI [.int x1, .int x2] rfl rfl rfl rfl
/-! CartoonHouseModel.mix(I)I -/
theorem k336_0 : a_bl 336 0 = [o_I (J 0), o_is 2, o_I (J 0), o_is 3, o_ft 1] := rfl
theorem k336_1 : a_bl 336 1 = [o_il 3, o_I (J 3), o_ic 3 4, o_il 1, o_al 0, o_getR 11 94, o_il 3, o_iald, o_bin 1, o_is 4, o_il 2, o_il 4, o_I (J 0), o_al 0, o_getR 11 93, o_il 3, o_iald, o_I (J 1), o_bin 1, o_call 219, o_if 0 2, o_al 0, o_getR 11 92, o_I (J 100), o_il 3, o_bin 2, o_il 4, o_bin 0, o_iald, o_goto 3] := rfl
theorem k336_2 : a_bl 336 2 = [o_I (J 0), o_ft 3] := rfl
theorem k336_3 : a_bl 336 3 = [o_bin 0, o_is 2, o_iinc 3 (J 1), o_goto 1] := rfl
theorem k336_4 : a_bl 336 4 = [o_il 2, o_I (J (-128)), o_ic 3 5, o_I (J (-128)), o_goto 7] := rfl
theorem k336_5 : a_bl 336 5 = [o_il 2, o_I (J 127), o_ic 5 6, o_I (J 127), o_goto 7] := rfl
theorem k336_6 : a_bl 336 6 = [o_il 2, o_ft 7] := rfl
theorem k336_7 : a_bl 336 7 = [o_ret 1] := rfl
theorem k336_r : a_rt 336 = (some .int) := rfl
theorem k336_s {E : AEn} {hi : AHi} {hr : AHr} {n : Nat} {Q : ARs → Prop} (x0 : Nat) (x1 : Int32) : Sp E 336 [.ref x0, .int x1] hi hr n Q ↔ Tm E 336 (a_bl 336 0) [.ref x0, .int x1, a_mk, a_mk, a_mk] [] hi hr n Q := Iff.rfl
theorem K336 : (type_of% k336_0) ∧ (type_of% k336_2) ∧ (type_of% k336_3) ∧ (type_of% k336_4) ∧ (type_of% k336_5) ∧ (type_of% k336_6) ∧ (type_of% k336_7) ∧ (type_of% k336_r) ∧ (type_of% @k336_s) := ⟨k336_0, k336_2, k336_3, k336_4, k336_5, k336_6, k336_7, k336_r, @k336_s⟩
theorem c336 {m : Nat} {is : List AOp} {ls st : List Value} {E : AEn} {hi : AHi} {hr : AHr} {n : Nat} {Q : ARs → Prop} (x0 : Nat) (x1 : Int32) : Tm E m (o_call 336 :: is) ls (.int x1 :: .ref x0 :: st) hi hr n Q ↔ (a_kd x0 = 11 ∧ x0 < n ∧ st.length ≤ 4) ∧ Sp E 336 [.ref x0, .int x1] hi hr n (fun r => Tm E m is ls (r.1.toList ++ st) r.2.1 r.2.2.1 r.2.2.2 Q) := T_cI [.int x1] rfl rfl rfl rfl
/-! CartoonHouseModel.count(I)I -/
theorem k337_0 : a_bl 337 0 = [o_I (J 0), o_is 2, o_il 1, o_sw 0 15 [1, 4, 7, 8, 9, 10, 11, 12, 13, 14]] := rfl
theorem k337_1 : a_bl 337 1 = [o_I (J 0), o_is 3, o_ft 2] := rfl
theorem k337_2 : a_bl 337 2 = [o_il 3, o_I (J 16), o_ic 3 3, o_il 2, o_al 0, o_getR 11 8, o_il 3, o_iald, o_bin 0, o_is 2, o_iinc 3 (J 1), o_goto 2] := rfl
theorem k337_3 : a_bl 337 3 = [o_il 2, o_ret 1] := rfl
theorem k337_4 : a_bl 337 4 = [o_I (J 0), o_is 3, o_ft 5] := rfl
theorem k337_5 : a_bl 337 5 = [o_il 3, o_I (J 16), o_ic 3 6, o_il 2, o_al 0, o_getR 11 22, o_il 3, o_iald, o_bin 0, o_is 2, o_iinc 3 (J 1), o_goto 5] := rfl
theorem k337_6 : a_bl 337 6 = [o_il 2, o_ret 1] := rfl
theorem k337_7 : a_bl 337 7 = [o_al 0, o_getI 11 50, o_ret 1] := rfl
theorem k337_8 : a_bl 337 8 = [o_al 0, o_getI 11 82, o_ret 1] := rfl
theorem k337_9 : a_bl 337 9 = [o_al 0, o_getI 11 87, o_ret 1] := rfl
theorem k337_10 : a_bl 337 10 = [o_al 0, o_getI 11 88, o_ret 1] := rfl
theorem k337_11 : a_bl 337 11 = [o_al 0, o_getI 11 65, o_ret 1] := rfl
theorem k337_12 : a_bl 337 12 = [o_al 0, o_getI 11 45, o_ret 1] := rfl
theorem k337_13 : a_bl 337 13 = [o_al 0, o_getI 11 70, o_ret 1] := rfl
theorem k337_14 : a_bl 337 14 = [o_al 0, o_getI 11 2, o_ret 1] := rfl
theorem k337_15 : a_bl 337 15 = [o_I (J (-1)), o_ret 1] := rfl
theorem k337_r : a_rt 337 = (some .int) := rfl
theorem k337_s {E : AEn} {hi : AHi} {hr : AHr} {n : Nat} {Q : ARs → Prop} (x0 : Nat) (x1 : Int32) : Sp E 337 [.ref x0, .int x1] hi hr n Q ↔ Tm E 337 (a_bl 337 0) [.ref x0, .int x1, a_mk, a_mk] [] hi hr n Q := Iff.rfl
theorem K337 : (type_of% k337_0) ∧ (type_of% k337_1) ∧ (type_of% k337_3) ∧ (type_of% k337_4) ∧ (type_of% k337_6) ∧ (type_of% k337_7) ∧ (type_of% k337_8) ∧ (type_of% k337_9) ∧ (type_of% k337_10) ∧ (type_of% k337_11) ∧ (type_of% k337_12) ∧ (type_of% k337_13) ∧ (type_of% k337_14) ∧ (type_of% k337_15) ∧ (type_of% k337_r) ∧ (type_of% @k337_s) := ⟨k337_0, k337_1, k337_3, k337_4, k337_6, k337_7, k337_8, k337_9, k337_10, k337_11, k337_12, k337_13, k337_14, k337_15, k337_r, @k337_s⟩
theorem c337 {m : Nat} {is : List AOp} {ls st : List Value} {E : AEn} {hi : AHi} {hr : AHr} {n : Nat} {Q : ARs → Prop} (x0 : Nat) (x1 : Int32) : Tm E m (o_call 337 :: is) ls (.int x1 :: .ref x0 :: st) hi hr n Q ↔ (a_kd x0 = 11 ∧ x0 < n ∧ st.length ≤ 4) ∧ Sp E 337 [.ref x0, .int x1] hi hr n (fun r => Tm E m is ls (r.1.toList ++ st) r.2.1 r.2.2.1 r.2.2.2 Q) := T_cI [.int x1] rfl rfl rfl rfl
/-! CartoonHouse$Kind.isCalled(LCartoonHouse$Bytes;II)Z -/
theorem k338_0 : a_bl 338 0 = [o_il 3, o_il 2, o_bin 1, o_al 0, o_getR 12 0, o_call 339, o_ic 0 1, o_I (J 0), o_ret 1] := rfl
theorem k338_1 : a_bl 338 1 = [o_I (J 0), o_is 4, o_ft 2] := rfl
theorem k338_2 : a_bl 338 2 = [o_il 4, o_al 0, o_getR 12 0, o_call 339, o_ic 3 4, o_al 1, o_il 2, o_il 4, o_bin 0, o_call 12, o_al 0, o_getR 12 0, o_il 4, o_call 341, o_ic 0 3, o_I (J 0), o_ret 1] := rfl
theorem k338_3 : a_bl 338 3 = [o_iinc 4 (J 1), o_goto 2] := rfl
theorem k338_4 : a_bl 338 4 = [o_I (J 1), o_ret 1] := rfl
theorem k338_r : a_rt 338 = (some .boolean) := rfl
theorem k338_s {E : AEn} {hi : AHi} {hr : AHr} {n : Nat} {Q : ARs → Prop} (x0 : Nat) (x1 : Nat) (x2 : Int32) (x3 : Int32) : Sp E 338 [.ref x0, .ref x1, .int x2, .int x3] hi hr n Q ↔ Tm E 338 (a_bl 338 0) [.ref x0, .ref x1, .int x2, .int x3, a_mk] [] hi hr n Q := Iff.rfl
theorem K338 : (type_of% k338_0) ∧ (type_of% k338_1) ∧ (type_of% k338_3) ∧ (type_of% k338_4) ∧ (type_of% k338_r) ∧ (type_of% @k338_s) := ⟨k338_0, k338_1, k338_3, k338_4, k338_r, @k338_s⟩
theorem c338 {m : Nat} {is : List AOp} {ls st : List Value} {E : AEn} {hi : AHi} {hr : AHr} {n : Nat} {Q : ARs → Prop} (x0 : Nat) (x1 : Nat) (x2 : Int32) (x3 : Int32) : Tm E m (o_call 338 :: is) ls (.int x3 :: .int x2 :: .ref x1 :: .ref x0 :: st) hi hr n Q ↔ (a_kd x0 = 12 ∧ x0 < n ∧ st.length ≤ 4) ∧ Sp E 338 [.ref x0, .ref x1, .int x2, .int x3] hi hr n (fun r => Tm E m is ls (r.1.toList ++ st) r.2.1 r.2.2.1 r.2.2.2 Q) := T_cI [.ref x1, .int x2, .int x3] rfl rfl rfl rfl
/-! java/lang/String.length()I -/
theorem k339_0 : a_bl 339 0 = [o_al 0, o_getR 13 0, o_alen, o_al 0, o_call 340, o_bin 7, o_ret 1] := rfl
theorem k339_r : a_rt 339 = (some .int) := rfl
theorem k339_s {E : AEn} {hi : AHi} {hr : AHr} {n : Nat} {Q : ARs → Prop} (x0 : Nat) : Sp E 339 [.ref x0] hi hr n Q ↔ Tm E 339 (a_bl 339 0) [.ref x0] [] hi hr n Q := Iff.rfl
theorem K339 : (type_of% k339_0) ∧ (type_of% k339_r) ∧ (type_of% @k339_s) := ⟨k339_0, k339_r, @k339_s⟩
theorem c339 {m : Nat} {is : List AOp} {ls st : List Value} {E : AEn} {hi : AHi} {hr : AHr} {n : Nat} {Q : ARs → Prop} (x0 : Nat) : Tm E m (o_call 339 :: is) ls (.ref x0 :: st) hi hr n Q ↔ (a_kd x0 = 13 ∧ x0 < n ∧ st.length ≤ 4) ∧ Sp E 339 [.ref x0] hi hr n (fun r => Tm E m is ls (r.1.toList ++ st) r.2.1 r.2.2.1 r.2.2.2 Q) := T_cI [] rfl rfl rfl rfl
/-! java/lang/String.coder()B -/
theorem k340_0 : a_bl 340 0 = [o_I (J 1), o_if 0 1, o_al 0, o_getI 13 1, o_goto 2] := rfl
theorem k340_1 : a_bl 340 1 = [o_I (J 1), o_ft 2] := rfl
theorem k340_2 : a_bl 340 2 = [o_ret 1] := rfl
theorem k340_r : a_rt 340 = (some .byte) := rfl
theorem k340_s {E : AEn} {hi : AHi} {hr : AHr} {n : Nat} {Q : ARs → Prop} (x0 : Nat) : Sp E 340 [.ref x0] hi hr n Q ↔ Tm E 340 (a_bl 340 0) [.ref x0] [] hi hr n Q := Iff.rfl
theorem K340 : (type_of% k340_0) ∧ (type_of% k340_1) ∧ (type_of% k340_2) ∧ (type_of% k340_r) ∧ (type_of% @k340_s) := ⟨k340_0, k340_1, k340_2, k340_r, @k340_s⟩
theorem c340 {m : Nat} {is : List AOp} {ls st : List Value} {E : AEn} {hi : AHi} {hr : AHr} {n : Nat} {Q : ARs → Prop} (x0 : Nat) : Tm E m (o_call 340 :: is) ls (.ref x0 :: st) hi hr n Q ↔ (a_kd x0 = 13 ∧ x0 < n ∧ st.length ≤ 4) ∧ Sp E 340 [.ref x0] hi hr n (fun r => Tm E m is ls (r.1.toList ++ st) r.2.1 r.2.2.1 r.2.2.2 Q) := T_cI [] rfl rfl rfl rfl
/-! java/lang/String.charAt(I)C -/
theorem k341_0 : a_bl 341 0 = [o_al 0, o_call 342, o_if 0 1, o_al 0, o_getR 13 0, o_il 1, o_call 351, o_ret 1] := rfl
theorem k341_1 : a_bl 341 1 = [o_al 0, o_getR 13 0, o_il 1, o_call 352, o_ret 1] := rfl
theorem k341_r : a_rt 341 = (some .char) := rfl
theorem k341_s {E : AEn} {hi : AHi} {hr : AHr} {n : Nat} {Q : ARs → Prop} (x0 : Nat) (x1 : Int32) : Sp E 341 [.ref x0, .int x1] hi hr n Q ↔ Tm E 341 (a_bl 341 0) [.ref x0, .int x1] [] hi hr n Q := Iff.rfl
theorem K341 : (type_of% k341_0) ∧ (type_of% k341_1) ∧ (type_of% k341_r) ∧ (type_of% @k341_s) := ⟨k341_0, k341_1, k341_r, @k341_s⟩
theorem c341 {m : Nat} {is : List AOp} {ls st : List Value} {E : AEn} {hi : AHi} {hr : AHr} {n : Nat} {Q : ARs → Prop} (x0 : Nat) (x1 : Int32) : Tm E m (o_call 341 :: is) ls (.int x1 :: .ref x0 :: st) hi hr n Q ↔ (a_kd x0 = 13 ∧ x0 < n ∧ st.length ≤ 4) ∧ Sp E 341 [.ref x0, .int x1] hi hr n (fun r => Tm E m is ls (r.1.toList ++ st) r.2.1 r.2.2.1 r.2.2.2 Q) := T_cI [.int x1] rfl rfl rfl rfl
/-! java/lang/String.isLatin1()Z -/
theorem k342_0 : a_bl 342 0 = [o_I (J 1), o_if 0 1, o_al 0, o_getI 13 1, o_if 1 1, o_I (J 1), o_goto 2] := rfl
theorem k342_1 : a_bl 342 1 = [o_I (J 0), o_ft 2] := rfl
theorem k342_2 : a_bl 342 2 = [o_ret 1] := rfl
theorem k342_r : a_rt 342 = (some .boolean) := rfl
theorem k342_s {E : AEn} {hi : AHi} {hr : AHr} {n : Nat} {Q : ARs → Prop} (x0 : Nat) : Sp E 342 [.ref x0] hi hr n Q ↔ Tm E 342 (a_bl 342 0) [.ref x0] [] hi hr n Q := Iff.rfl
theorem K342 : (type_of% k342_0) ∧ (type_of% k342_1) ∧ (type_of% k342_2) ∧ (type_of% k342_r) ∧ (type_of% @k342_s) := ⟨k342_0, k342_1, k342_2, k342_r, @k342_s⟩
theorem c342 {m : Nat} {is : List AOp} {ls st : List Value} {E : AEn} {hi : AHi} {hr : AHr} {n : Nat} {Q : ARs → Prop} (x0 : Nat) : Tm E m (o_call 342 :: is) ls (.ref x0 :: st) hi hr n Q ↔ (a_kd x0 = 13 ∧ x0 < n ∧ st.length ≤ 4) ∧ Sp E 342 [.ref x0] hi hr n (fun r => Tm E m is ls (r.1.toList ++ st) r.2.1 r.2.2.1 r.2.2.2 Q) := T_cI [] rfl rfl rfl rfl
/-! java/lang/String.checkIndex(II)V -/
theorem k343_0 : a_bl 343 0 = [o_il 0, o_il 1, o_cR 27, o_call 358, o_pop, o_ret 0] := rfl
theorem k343_r : a_rt 343 = none := rfl
theorem k343_s {E : AEn} {hi : AHi} {hr : AHr} {n : Nat} {Q : ARs → Prop} (x0 : Int32) (x1 : Int32) : Sp E 343 [.int x0, .int x1] hi hr n Q ↔ Tm E 343 (a_bl 343 0) [.int x0, .int x1] [] hi hr n Q := Iff.rfl
theorem K343 : (type_of% k343_0) ∧ (type_of% k343_r) ∧ (type_of% @k343_s) := ⟨k343_0, k343_r, @k343_s⟩
theorem c343 {m : Nat} {is : List AOp} {ls st : List Value} {E : AEn} {hi : AHi} {hr : AHr} {n : Nat} {Q : ARs → Prop} (x0 : Int32) (x1 : Int32) : Tm E m (o_call 343 :: is) ls (.int x1 :: .int x0 :: st) hi hr n Q ↔ st.length ≤ 4 ∧ Sp E 343 [.int x0, .int x1] hi hr n (fun r => Tm E m is ls (r.1.toList ++ st) r.2.1 r.2.2.1 r.2.2.2 Q) := T_cS [.int x0, .int x1] rfl rfl
/-! java/lang/Enum.ordinal()I -/
theorem k344_0 : a_bl 344 0 = [o_al 0, o_getI 12 3, o_ret 1] := rfl
theorem k344_r : a_rt 344 = (some .int) := rfl
theorem k344_s {E : AEn} {hi : AHi} {hr : AHr} {n : Nat} {Q : ARs → Prop} (x0 : Nat) : Sp E 344 [.ref x0] hi hr n Q ↔ Tm E 344 (a_bl 344 0) [.ref x0] [] hi hr n Q := Iff.rfl
theorem K344 : (type_of% k344_0) ∧ (type_of% k344_r) ∧ (type_of% @k344_s) := ⟨k344_0, k344_r, @k344_s⟩
theorem c344 {m : Nat} {is : List AOp} {ls st : List Value} {E : AEn} {hi : AHi} {hr : AHr} {n : Nat} {Q : ARs → Prop} (x0 : Nat) : Tm E m (o_call 344 :: is) ls (.ref x0 :: st) hi hr n Q ↔ (a_kd x0 = 12 ∧ x0 < n ∧ st.length ≤ 4) ∧ Sp E 344 [.ref x0] hi hr n (fun r => Tm E m is ls (r.1.toList ++ st) r.2.1 r.2.2.1 r.2.2.2 Q) := T_cI [] rfl rfl rfl rfl
/-! java/lang/Integer.bitCount(I)I -/
theorem k345_0 : a_bl 345 0 = [o_il 0, o_il 0, o_I (J 1), o_bin 8, o_I (J 1431655765), o_bin 3, o_bin 1, o_is 0, o_il 0, o_I (J 858993459), o_bin 3, o_il 0, o_I (J 2), o_bin 8, o_I (J 858993459), o_bin 3, o_bin 0, o_is 0, o_il 0, o_il 0, o_I (J 4), o_bin 8, o_bin 0, o_I (J 252645135), o_bin 3, o_is 0, o_il 0, o_il 0, o_I (J 8), o_bin 8, o_bin 0, o_is 0, o_il 0, o_il 0, o_I (J 16), o_bin 8, o_bin 0, o_is 0, o_il 0, o_I (J 63), o_bin 3, o_ret 1] := rfl
theorem k345_r : a_rt 345 = (some .int) := rfl
theorem k345_s {E : AEn} {hi : AHi} {hr : AHr} {n : Nat} {Q : ARs → Prop} (x0 : Int32) : Sp E 345 [.int x0] hi hr n Q ↔ Tm E 345 (a_bl 345 0) [.int x0] [] hi hr n Q := Iff.rfl
theorem K345 : (type_of% k345_0) ∧ (type_of% k345_r) ∧ (type_of% @k345_s) := ⟨k345_0, k345_r, @k345_s⟩
theorem c345 {m : Nat} {is : List AOp} {ls st : List Value} {E : AEn} {hi : AHi} {hr : AHr} {n : Nat} {Q : ARs → Prop} (x0 : Int32) : Tm E m (o_call 345 :: is) ls (.int x0 :: st) hi hr n Q ↔ st.length ≤ 4 ∧ Sp E 345 [.int x0] hi hr n (fun r => Tm E m is ls (r.1.toList ++ st) r.2.1 r.2.2.1 r.2.2.2 Q) := T_cS [.int x0] rfl rfl
/-! java/lang/Math.abs(I)I -/
theorem k346_0 : a_bl 346 0 = [o_il 0, o_if 3 1, o_il 0, o_un 0, o_goto 2] := rfl
theorem k346_1 : a_bl 346 1 = [o_il 0, o_ft 2] := rfl
theorem k346_2 : a_bl 346 2 = [o_ret 1] := rfl
theorem k346_r : a_rt 346 = (some .int) := rfl
theorem k346_s {E : AEn} {hi : AHi} {hr : AHr} {n : Nat} {Q : ARs → Prop} (x0 : Int32) : Sp E 346 [.int x0] hi hr n Q ↔ Tm E 346 (a_bl 346 0) [.int x0] [] hi hr n Q := Iff.rfl
theorem K346 : (type_of% k346_0) ∧ (type_of% k346_1) ∧ (type_of% k346_2) ∧ (type_of% k346_r) ∧ (type_of% @k346_s) := ⟨k346_0, k346_1, k346_2, k346_r, @k346_s⟩
theorem c346 {m : Nat} {is : List AOp} {ls st : List Value} {E : AEn} {hi : AHi} {hr : AHr} {n : Nat} {Q : ARs → Prop} (x0 : Int32) : Tm E m (o_call 346 :: is) ls (.int x0 :: st) hi hr n Q ↔ st.length ≤ 4 ∧ Sp E 346 [.int x0] hi hr n (fun r => Tm E m is ls (r.1.toList ++ st) r.2.1 r.2.2.1 r.2.2.2 Q) := T_cS [.int x0] rfl rfl
/-! java/lang/Math.max(II)I -/
theorem k347_0 : a_bl 347 0 = [o_il 0, o_il 1, o_ic 2 1, o_il 0, o_goto 2] := rfl
theorem k347_1 : a_bl 347 1 = [o_il 1, o_ft 2] := rfl
theorem k347_2 : a_bl 347 2 = [o_ret 1] := rfl
theorem k347_r : a_rt 347 = (some .int) := rfl
theorem k347_s {E : AEn} {hi : AHi} {hr : AHr} {n : Nat} {Q : ARs → Prop} (x0 : Int32) (x1 : Int32) : Sp E 347 [.int x0, .int x1] hi hr n Q ↔ Tm E 347 (a_bl 347 0) [.int x0, .int x1] [] hi hr n Q := Iff.rfl
theorem K347 : (type_of% k347_0) ∧ (type_of% k347_1) ∧ (type_of% k347_2) ∧ (type_of% k347_r) ∧ (type_of% @k347_s) := ⟨k347_0, k347_1, k347_2, k347_r, @k347_s⟩
theorem c347 {m : Nat} {is : List AOp} {ls st : List Value} {E : AEn} {hi : AHi} {hr : AHr} {n : Nat} {Q : ARs → Prop} (x0 : Int32) (x1 : Int32) : Tm E m (o_call 347 :: is) ls (.int x1 :: .int x0 :: st) hi hr n Q ↔ st.length ≤ 4 ∧ Sp E 347 [.int x0, .int x1] hi hr n (fun r => Tm E m is ls (r.1.toList ++ st) r.2.1 r.2.2.1 r.2.2.2 Q) := T_cS [.int x0, .int x1] rfl rfl
/-! java/lang/Math.floorDiv(JJ)J -/
theorem k348_0 : a_bl 348 0 = [o_ll 0, o_ll 2, o_binL 3, o_lst 4, o_ll 0, o_ll 2, o_binL 6, o_L (L 0), o_binL 5, o_if 3 1, o_ll 4, o_ll 2, o_binL 2, o_ll 0, o_binL 5, o_if 0 1, o_ll 4, o_L (L 1), o_binL 1, o_ret 2] := rfl
theorem k348_1 : a_bl 348 1 = [o_ll 4, o_ret 2] := rfl
theorem k348_r : a_rt 348 = (some .long) := rfl
theorem k348_s {E : AEn} {hi : AHi} {hr : AHr} {n : Nat} {Q : ARs → Prop} (x0 : Int64) (x1 : Int64) : Sp E 348 [.long x0, .long x1] hi hr n Q ↔ Tm E 348 (a_bl 348 0) [.long x0, a_mk, .long x1, a_mk, a_mk, a_mk] [] hi hr n Q := Iff.rfl
theorem K348 : (type_of% k348_0) ∧ (type_of% k348_1) ∧ (type_of% k348_r) ∧ (type_of% @k348_s) := ⟨k348_0, k348_1, k348_r, @k348_s⟩
theorem c348 {m : Nat} {is : List AOp} {ls st : List Value} {E : AEn} {hi : AHi} {hr : AHr} {n : Nat} {Q : ARs → Prop} (x0 : Int64) (x1 : Int64) : Tm E m (o_call 348 :: is) ls (.long x1 :: .long x0 :: st) hi hr n Q ↔ st.length ≤ 4 ∧ Sp E 348 [.long x0, .long x1] hi hr n (fun r => Tm E m is ls (r.1.toList ++ st) r.2.1 r.2.2.1 r.2.2.2 Q) := T_cS [.long x0, .long x1] rfl rfl
/-! java/lang/Math.min(II)I -/
theorem k349_0 : a_bl 349 0 = [o_il 0, o_il 1, o_ic 4 1, o_il 0, o_goto 2] := rfl
theorem k349_1 : a_bl 349 1 = [o_il 1, o_ft 2] := rfl
theorem k349_2 : a_bl 349 2 = [o_ret 1] := rfl
theorem k349_r : a_rt 349 = (some .int) := rfl
theorem k349_s {E : AEn} {hi : AHi} {hr : AHr} {n : Nat} {Q : ARs → Prop} (x0 : Int32) (x1 : Int32) : Sp E 349 [.int x0, .int x1] hi hr n Q ↔ Tm E 349 (a_bl 349 0) [.int x0, .int x1] [] hi hr n Q := Iff.rfl
theorem K349 : (type_of% k349_0) ∧ (type_of% k349_1) ∧ (type_of% k349_2) ∧ (type_of% k349_r) ∧ (type_of% @k349_s) := ⟨k349_0, k349_1, k349_2, k349_r, @k349_s⟩
theorem c349 {m : Nat} {is : List AOp} {ls st : List Value} {E : AEn} {hi : AHi} {hr : AHr} {n : Nat} {Q : ARs → Prop} (x0 : Int32) (x1 : Int32) : Tm E m (o_call 349 :: is) ls (.int x1 :: .int x0 :: st) hi hr n Q ↔ st.length ≤ 4 ∧ Sp E 349 [.int x0, .int x1] hi hr n (fun r => Tm E m is ls (r.1.toList ++ st) r.2.1 r.2.2.1 r.2.2.2 Q) := T_cS [.int x0, .int x1] rfl rfl
/-! java/lang/Math.floorDiv(II)I -/
theorem k350_0 : a_bl 350 0 = [o_il 0, o_il 1, o_bin 9, o_is 2, o_il 0, o_il 1, o_bin 5, o_if 3 1, o_il 2, o_il 1, o_bin 2, o_il 0, o_ic 0 1, o_il 2, o_I (J 1), o_bin 1, o_ret 1] := rfl
theorem k350_1 : a_bl 350 1 = [o_il 2, o_ret 1] := rfl
theorem k350_r : a_rt 350 = (some .int) := rfl
theorem k350_s {E : AEn} {hi : AHi} {hr : AHr} {n : Nat} {Q : ARs → Prop} (x0 : Int32) (x1 : Int32) : Sp E 350 [.int x0, .int x1] hi hr n Q ↔ Tm E 350 (a_bl 350 0) [.int x0, .int x1, a_mk] [] hi hr n Q := Iff.rfl
theorem K350 : (type_of% k350_0) ∧ (type_of% k350_1) ∧ (type_of% k350_r) ∧ (type_of% @k350_s) := ⟨k350_0, k350_1, k350_r, @k350_s⟩
theorem c350 {m : Nat} {is : List AOp} {ls st : List Value} {E : AEn} {hi : AHi} {hr : AHr} {n : Nat} {Q : ARs → Prop} (x0 : Int32) (x1 : Int32) : Tm E m (o_call 350 :: is) ls (.int x1 :: .int x0 :: st) hi hr n Q ↔ st.length ≤ 4 ∧ Sp E 350 [.int x0, .int x1] hi hr n (fun r => Tm E m is ls (r.1.toList ++ st) r.2.1 r.2.2.1 r.2.2.2 Q) := T_cS [.int x0, .int x1] rfl rfl
/-! java/lang/StringLatin1.charAt([BI)C -/
theorem k351_0 : a_bl 351 0 = [o_il 1, o_al 0, o_alen, o_call 343, o_al 0, o_il 1, o_bald, o_I (J 255), o_bin 3, o_un 4, o_ret 1] := rfl
theorem k351_r : a_rt 351 = (some .char) := rfl
theorem k351_s {E : AEn} {hi : AHi} {hr : AHr} {n : Nat} {Q : ARs → Prop} (x0 : Nat) (x1 : Int32) : Sp E 351 [.ref x0, .int x1] hi hr n Q ↔ Tm E 351 (a_bl 351 0) [.ref x0, .int x1] [] hi hr n Q := Iff.rfl
theorem K351 : (type_of% k351_0) ∧ (type_of% k351_r) ∧ (type_of% @k351_s) := ⟨k351_0, k351_r, @k351_s⟩
theorem c351 {m : Nat} {is : List AOp} {ls st : List Value} {E : AEn} {hi : AHi} {hr : AHr} {n : Nat} {Q : ARs → Prop} (x0 : Nat) (x1 : Int32) : Tm E m (o_call 351 :: is) ls (.int x1 :: .ref x0 :: st) hi hr n Q ↔ st.length ≤ 4 ∧ Sp E 351 [.ref x0, .int x1] hi hr n (fun r => Tm E m is ls (r.1.toList ++ st) r.2.1 r.2.2.1 r.2.2.2 Q) := T_cS [.ref x0, .int x1] rfl rfl
/-! java/lang/StringUTF16.charAt([BI)C -/
theorem k352_0 : a_bl 352 0 = [o_il 1, o_al 0, o_call 353, o_al 0, o_il 1, o_call 355, o_ret 1] := rfl
theorem k352_r : a_rt 352 = (some .char) := rfl
theorem k352_s {E : AEn} {hi : AHi} {hr : AHr} {n : Nat} {Q : ARs → Prop} (x0 : Nat) (x1 : Int32) : Sp E 352 [.ref x0, .int x1] hi hr n Q ↔ Tm E 352 (a_bl 352 0) [.ref x0, .int x1] [] hi hr n Q := Iff.rfl
theorem K352 : (type_of% k352_0) ∧ (type_of% k352_r) ∧ (type_of% @k352_s) := ⟨k352_0, k352_r, @k352_s⟩
theorem c352 {m : Nat} {is : List AOp} {ls st : List Value} {E : AEn} {hi : AHi} {hr : AHr} {n : Nat} {Q : ARs → Prop} (x0 : Nat) (x1 : Int32) : Tm E m (o_call 352 :: is) ls (.int x1 :: .ref x0 :: st) hi hr n Q ↔ st.length ≤ 4 ∧ Sp E 352 [.ref x0, .int x1] hi hr n (fun r => Tm E m is ls (r.1.toList ++ st) r.2.1 r.2.2.1 r.2.2.2 Q) := T_cS [.ref x0, .int x1] rfl rfl
/-! java/lang/StringUTF16.checkIndex(I[B)V -/
theorem k353_0 : a_bl 353 0 = [o_il 0, o_al 1, o_call 354, o_call 343, o_ret 0] := rfl
theorem k353_r : a_rt 353 = none := rfl
theorem k353_s {E : AEn} {hi : AHi} {hr : AHr} {n : Nat} {Q : ARs → Prop} (x0 : Int32) (x1 : Nat) : Sp E 353 [.int x0, .ref x1] hi hr n Q ↔ Tm E 353 (a_bl 353 0) [.int x0, .ref x1] [] hi hr n Q := Iff.rfl
theorem K353 : (type_of% k353_0) ∧ (type_of% k353_r) ∧ (type_of% @k353_s) := ⟨k353_0, k353_r, @k353_s⟩
theorem c353 {m : Nat} {is : List AOp} {ls st : List Value} {E : AEn} {hi : AHi} {hr : AHr} {n : Nat} {Q : ARs → Prop} (x0 : Int32) (x1 : Nat) : Tm E m (o_call 353 :: is) ls (.ref x1 :: .int x0 :: st) hi hr n Q ↔ st.length ≤ 4 ∧ Sp E 353 [.int x0, .ref x1] hi hr n (fun r => Tm E m is ls (r.1.toList ++ st) r.2.1 r.2.2.1 r.2.2.2 Q) := T_cS [.int x0, .ref x1] rfl rfl
/-! java/lang/StringUTF16.length([B)I -/
theorem k354_0 : a_bl 354 0 = [o_al 0, o_alen, o_I (J 1), o_bin 7, o_ret 1] := rfl
theorem k354_r : a_rt 354 = (some .int) := rfl
theorem k354_s {E : AEn} {hi : AHi} {hr : AHr} {n : Nat} {Q : ARs → Prop} (x0 : Nat) : Sp E 354 [.ref x0] hi hr n Q ↔ Tm E 354 (a_bl 354 0) [.ref x0] [] hi hr n Q := Iff.rfl
theorem K354 : (type_of% k354_0) ∧ (type_of% k354_r) ∧ (type_of% @k354_s) := ⟨k354_0, k354_r, @k354_s⟩
theorem c354 {m : Nat} {is : List AOp} {ls st : List Value} {E : AEn} {hi : AHi} {hr : AHr} {n : Nat} {Q : ARs → Prop} (x0 : Nat) : Tm E m (o_call 354 :: is) ls (.ref x0 :: st) hi hr n Q ↔ st.length ≤ 4 ∧ Sp E 354 [.ref x0] hi hr n (fun r => Tm E m is ls (r.1.toList ++ st) r.2.1 r.2.2.1 r.2.2.2 Q) := T_cS [.ref x0] rfl rfl
/-! java/lang/StringUTF16.getChar([BI)C -/
theorem k355_0 : a_bl 355 0 = [o_bad] := rfl
theorem k355_1 : a_bl 355 1 = [o_bad] := rfl
theorem k355_2 : a_bl 355 2 = [o_il 1, o_I (J 1), o_bin 6, o_is 1, o_al 0, o_il 1, o_iinc 1 (J 1), o_bald, o_I (J 255), o_bin 3, o_bad] := rfl
theorem k355_r : a_rt 355 = (some .char) := rfl
theorem k355_s {E : AEn} {hi : AHi} {hr : AHr} {n : Nat} {Q : ARs → Prop} (x0 : Nat) (x1 : Int32) : Sp E 355 [.ref x0, .int x1] hi hr n Q ↔ Tm E 355 (a_bl 355 0) [.ref x0, .int x1] [] hi hr n Q := Iff.rfl
theorem K355 : (type_of% k355_0) ∧ (type_of% k355_1) ∧ (type_of% k355_2) ∧ (type_of% k355_r) ∧ (type_of% @k355_s) := ⟨k355_0, k355_1, k355_2, k355_r, @k355_s⟩
theorem c355 {m : Nat} {is : List AOp} {ls st : List Value} {E : AEn} {hi : AHi} {hr : AHr} {n : Nat} {Q : ARs → Prop} (x0 : Nat) (x1 : Int32) : Tm E m (o_call 355 :: is) ls (.int x1 :: .ref x0 :: st) hi hr n Q ↔ st.length ≤ 4 ∧ Sp E 355 [.ref x0, .int x1] hi hr n (fun r => Tm E m is ls (r.1.toList ++ st) r.2.1 r.2.2.1 r.2.2.2 Q) := T_cS [.ref x0, .int x1] rfl rfl
/-! java/util/Arrays.fill([II)V -/
theorem k356_0 : a_bl 356 0 = [o_I (J 0), o_is 2, o_al 0, o_alen, o_is 3, o_ft 1] := rfl
theorem k356_1 : a_bl 356 1 = [o_il 2, o_il 3, o_ic 3 2, o_al 0, o_il 2, o_il 1, o_iast, o_iinc 2 (J 1), o_goto 1] := rfl
theorem k356_2 : a_bl 356 2 = [o_ret 0] := rfl
theorem k356_r : a_rt 356 = none := rfl
theorem k356_s {E : AEn} {hi : AHi} {hr : AHr} {n : Nat} {Q : ARs → Prop} (x0 : Nat) (x1 : Int32) : Sp E 356 [.ref x0, .int x1] hi hr n Q ↔ Tm E 356 (a_bl 356 0) [.ref x0, .int x1, a_mk, a_mk] [] hi hr n Q := Iff.rfl
theorem K356 : (type_of% k356_0) ∧ (type_of% k356_2) ∧ (type_of% k356_r) ∧ (type_of% @k356_s) := ⟨k356_0, k356_2, k356_r, @k356_s⟩
theorem c356 {m : Nat} {is : List AOp} {ls st : List Value} {E : AEn} {hi : AHi} {hr : AHr} {n : Nat} {Q : ARs → Prop} (x0 : Nat) (x1 : Int32) : Tm E m (o_call 356 :: is) ls (.int x1 :: .ref x0 :: st) hi hr n Q ↔ st.length ≤ 4 ∧ Sp E 356 [.ref x0, .int x1] hi hr n (fun r => Tm E m is ls (r.1.toList ++ st) r.2.1 r.2.2.1 r.2.2.2 Q) := T_cS [.ref x0, .int x1] rfl rfl
/-! java/util/Arrays.copyOf([BI)[B -/
theorem k357_0 : a_bl 357 0 = [o_il 1, o_al 0, o_alen, o_ic 1 1, o_al 0, o_bad] := rfl
theorem k357_1 : a_bl 357 1 = [o_il 1, o_newa 21, o_as 2, o_al 0, o_I (J 0), o_al 2, o_I (J 0), o_al 0, o_alen, o_il 1, o_call 349, o_cp, o_al 2, o_ret 3] := rfl
theorem k357_r : a_rt 357 = (some (.array .byte)) := rfl
theorem k357_s {E : AEn} {hi : AHi} {hr : AHr} {n : Nat} {Q : ARs → Prop} (x0 : Nat) (x1 : Int32) : Sp E 357 [.ref x0, .int x1] hi hr n Q ↔ Tm E 357 (a_bl 357 0) [.ref x0, .int x1, a_mk] [] hi hr n Q := Iff.rfl
theorem K357 : (type_of% k357_0) ∧ (type_of% k357_1) ∧ (type_of% k357_r) ∧ (type_of% @k357_s) := ⟨k357_0, k357_1, k357_r, @k357_s⟩
theorem c357 {m : Nat} {is : List AOp} {ls st : List Value} {E : AEn} {hi : AHi} {hr : AHr} {n : Nat} {Q : ARs → Prop} (x0 : Nat) (x1 : Int32) : Tm E m (o_call 357 :: is) ls (.int x1 :: .ref x0 :: st) hi hr n Q ↔ st.length ≤ 4 ∧ Sp E 357 [.ref x0, .int x1] hi hr n (fun r => Tm E m is ls (r.1.toList ++ st) r.2.1 r.2.2.1 r.2.2.2 Q) := T_cS [.ref x0, .int x1] rfl rfl
/-! jdk/internal/util/Preconditions.checkIndex(IILjava/util/function/BiFunction;)I -/
theorem k358_0 : a_bl 358 0 = [o_il 0, o_if 2 1, o_il 0, o_il 1, o_ic 2 2, o_ft 1] := rfl
theorem k358_1 : a_bl 358 1 = [o_al 2, o_il 0, o_il 1, o_bad] := rfl
theorem k358_2 : a_bl 358 2 = [o_il 0, o_ret 1] := rfl
theorem k358_r : a_rt 358 = (some .int) := rfl
theorem k358_s {E : AEn} {hi : AHi} {hr : AHr} {n : Nat} {Q : ARs → Prop} (x0 : Int32) (x1 : Int32) (x2 : Nat) : Sp E 358 [.int x0, .int x1, .ref x2] hi hr n Q ↔ Tm E 358 (a_bl 358 0) [.int x0, .int x1, .ref x2] [] hi hr n Q := Iff.rfl
theorem K358 : (type_of% k358_0) ∧ (type_of% k358_1) ∧ (type_of% k358_2) ∧ (type_of% k358_r) ∧ (type_of% @k358_s) := ⟨k358_0, k358_1, k358_2, k358_r, @k358_s⟩
theorem c358 {m : Nat} {is : List AOp} {ls st : List Value} {E : AEn} {hi : AHi} {hr : AHr} {n : Nat} {Q : ARs → Prop} (x0 : Int32) (x1 : Int32) (x2 : Nat) : Tm E m (o_call 358 :: is) ls (.ref x2 :: .int x1 :: .int x0 :: st) hi hr n Q ↔ st.length ≤ 4 ∧ Sp E 358 [.int x0, .int x1, .ref x2] hi hr n (fun r => Tm E m is ls (r.1.toList ++ st) r.2.1 r.2.2.1 r.2.2.2 Q) := T_cS [.int x0, .int x1, .ref x2] rfl rfl
/-! CartoonHouseLaw.law([I)Z -/
theorem k359_0 : a_bl 359 0 = [o_new 10, o_dup, o_call 132, o_as 1, o_new 11, o_dup, o_call 212, o_as 2, o_I (J 0), o_is 3, o_ft 1] := rfl
theorem k359_1 : a_bl 359 1 = [o_il 3, o_al 0, o_alen, o_I (J 6), o_bin 1, o_ic 4 54, o_al 0, o_il 3, o_iald, o_I (J 63), o_bin 3, o_sw 0 53 [2, 3, 4, 5, 6, 7, 8, 9, 10, 11, 12, 13, 14, 15, 16, 17, 18, 19, 20, 21, 22, 23, 24, 25, 26, 27, 28, 29, 30, 31, 32, 33, 34, 35, 36, 37, 38, 39, 40, 41, 42, 43, 44, 45, 46, 47, 48, 49, 50, 51, 52]] := rfl
theorem k359_2 : a_bl 359 2 = [o_al 1, o_al 0, o_il 3, o_I (J 1), o_bin 0, o_iald, o_al 0, o_il 3, o_I (J 2), o_bin 0, o_iald, o_al 0, o_il 3, o_I (J 3), o_bin 0, o_iald, o_al 0, o_il 3, o_I (J 4), o_bin 0, o_iald, o_al 0, o_il 3, o_I (J 5), o_bin 0, o_iald, o_call 133, o_al 2, o_al 0, o_il 3, o_I (J 1), o_bin 0, o_iald, o_al 0, o_il 3, o_I (J 2), o_bin 0, o_iald, o_al 0, o_il 3, o_I (J 3), o_bin 0, o_iald, o_al 0, o_il 3, o_I (J 4), o_bin 0, o_iald, o_al 0, o_il 3, o_I (J 5), o_bin 0, o_iald, o_call 213, o_ic 0 53, o_I (J 0), o_ret 1] := rfl
theorem k359_3 : a_bl 359 3 = [o_al 1, o_al 0, o_il 3, o_I (J 1), o_bin 0, o_iald, o_call 134, o_al 2, o_al 0, o_il 3, o_I (J 1), o_bin 0, o_iald, o_call 214, o_ic 0 53, o_I (J 0), o_ret 1] := rfl
theorem k359_4 : a_bl 359 4 = [o_al 1, o_al 0, o_il 3, o_I (J 1), o_bin 0, o_iald, o_call 135, o_al 2, o_al 0, o_il 3, o_I (J 1), o_bin 0, o_iald, o_call 215, o_ic 0 53, o_I (J 0), o_ret 1] := rfl
theorem k359_5 : a_bl 359 5 = [o_al 1, o_al 0, o_il 3, o_I (J 1), o_bin 0, o_iald, o_call 136, o_al 2, o_al 0, o_il 3, o_I (J 1), o_bin 0, o_iald, o_call 216, o_ic 0 53, o_I (J 0), o_ret 1] := rfl
theorem k359_6 : a_bl 359 6 = [o_al 1, o_al 0, o_il 3, o_I (J 1), o_bin 0, o_iald, o_al 0, o_il 3, o_I (J 2), o_bin 0, o_iald, o_call 140, o_al 2, o_al 0, o_il 3, o_I (J 1), o_bin 0, o_iald, o_al 0, o_il 3, o_I (J 2), o_bin 0, o_iald, o_call 228, o_ic 0 53, o_I (J 0), o_ret 1] := rfl
theorem k359_7 : a_bl 359 7 = [o_al 1, o_al 0, o_il 3, o_I (J 1), o_bin 0, o_iald, o_call 142, o_al 2, o_al 0, o_il 3, o_I (J 1), o_bin 0, o_iald, o_call 231, o_ic 0 53, o_I (J 0), o_ret 1] := rfl
theorem k359_8 : a_bl 359 8 = [o_al 1, o_al 0, o_il 3, o_I (J 1), o_bin 0, o_iald, o_al 0, o_il 3, o_I (J 2), o_bin 0, o_iald, o_al 0, o_il 3, o_I (J 3), o_bin 0, o_iald, o_call 143, o_al 2, o_al 0, o_il 3, o_I (J 1), o_bin 0, o_iald, o_al 0, o_il 3, o_I (J 2), o_bin 0, o_iald, o_al 0, o_il 3, o_I (J 3), o_bin 0, o_iald, o_call 234, o_ic 0 53, o_I (J 0), o_ret 1] := rfl
theorem k359_9 : a_bl 359 9 = [o_al 1, o_al 0, o_il 3, o_I (J 1), o_bin 0, o_iald, o_al 0, o_il 3, o_I (J 2), o_bin 0, o_iald, o_al 0, o_il 3, o_I (J 3), o_bin 0, o_iald, o_al 0, o_il 3, o_I (J 4), o_bin 0, o_iald, o_call 144, o_al 2, o_al 0, o_il 3, o_I (J 1), o_bin 0, o_iald, o_al 0, o_il 3, o_I (J 2), o_bin 0, o_iald, o_al 0, o_il 3, o_I (J 3), o_bin 0, o_iald, o_al 0, o_il 3, o_I (J 4), o_bin 0, o_iald, o_call 236, o_ic 0 53, o_I (J 0), o_ret 1] := rfl
theorem k359_10 : a_bl 359 10 = [o_al 1, o_al 0, o_il 3, o_I (J 1), o_bin 0, o_iald, o_al 0, o_il 3, o_I (J 2), o_bin 0, o_iald, o_al 0, o_il 3, o_I (J 3), o_bin 0, o_iald, o_call 147, o_al 2, o_al 0, o_il 3, o_I (J 1), o_bin 0, o_iald, o_al 0, o_il 3, o_I (J 2), o_bin 0, o_iald, o_al 0, o_il 3, o_I (J 3), o_bin 0, o_iald, o_call 245, o_ic 0 53, o_I (J 0), o_ret 1] := rfl
theorem k359_11 : a_bl 359 11 = [o_al 1, o_al 0, o_il 3, o_I (J 1), o_bin 0, o_iald, o_al 0, o_il 3, o_I (J 2), o_bin 0, o_iald, o_call 148, o_al 2, o_al 0, o_il 3, o_I (J 1), o_bin 0, o_iald, o_al 0, o_il 3, o_I (J 2), o_bin 0, o_iald, o_call 249, o_ic 0 53, o_I (J 0), o_ret 1] := rfl
theorem k359_12 : a_bl 359 12 = [o_al 1, o_al 0, o_il 3, o_I (J 1), o_bin 0, o_iald, o_al 0, o_il 3, o_I (J 2), o_bin 0, o_iald, o_al 0, o_il 3, o_I (J 3), o_bin 0, o_iald, o_al 0, o_il 3, o_I (J 4), o_bin 0, o_iald, o_al 0, o_il 3, o_I (J 5), o_bin 0, o_iald, o_call 149, o_al 2, o_al 0, o_il 3, o_I (J 1), o_bin 0, o_iald, o_al 0, o_il 3, o_I (J 2), o_bin 0, o_iald, o_al 0, o_il 3, o_I (J 3), o_bin 0, o_iald, o_al 0, o_il 3, o_I (J 4), o_bin 0, o_iald, o_al 0, o_il 3, o_I (J 5), o_bin 0, o_iald, o_call 250, o_ic 0 53, o_I (J 0), o_ret 1] := rfl
theorem k359_13 : a_bl 359 13 = [o_al 1, o_al 0, o_il 3, o_I (J 1), o_bin 0, o_iald, o_al 0, o_il 3, o_I (J 2), o_bin 0, o_iald, o_call 152, o_al 2, o_al 0, o_il 3, o_I (J 1), o_bin 0, o_iald, o_al 0, o_il 3, o_I (J 2), o_bin 0, o_iald, o_call 256, o_ic 0 53, o_I (J 0), o_ret 1] := rfl
theorem k359_14 : a_bl 359 14 = [o_al 1, o_al 0, o_il 3, o_I (J 1), o_bin 0, o_iald, o_al 0, o_il 3, o_I (J 2), o_bin 0, o_iald, o_call 154, o_al 2, o_al 0, o_il 3, o_I (J 1), o_bin 0, o_iald, o_al 0, o_il 3, o_I (J 2), o_bin 0, o_iald, o_call 259, o_ic 0 53, o_I (J 0), o_ret 1] := rfl
theorem k359_15 : a_bl 359 15 = [o_al 1, o_al 0, o_il 3, o_I (J 1), o_bin 0, o_iald, o_al 0, o_il 3, o_I (J 2), o_bin 0, o_iald, o_al 0, o_il 3, o_I (J 3), o_bin 0, o_iald, o_call 155, o_al 2, o_al 0, o_il 3, o_I (J 1), o_bin 0, o_iald, o_al 0, o_il 3, o_I (J 2), o_bin 0, o_iald, o_al 0, o_il 3, o_I (J 3), o_bin 0, o_iald, o_call 260, o_ic 0 53, o_I (J 0), o_ret 1] := rfl
theorem k359_16 : a_bl 359 16 = [o_al 1, o_al 0, o_il 3, o_I (J 1), o_bin 0, o_iald, o_al 0, o_il 3, o_I (J 2), o_bin 0, o_iald, o_al 0, o_il 3, o_I (J 3), o_bin 0, o_iald, o_call 156, o_al 2, o_al 0, o_il 3, o_I (J 1), o_bin 0, o_iald, o_al 0, o_il 3, o_I (J 2), o_bin 0, o_iald, o_al 0, o_il 3, o_I (J 3), o_bin 0, o_iald, o_call 262, o_ic 0 53, o_I (J 0), o_ret 1] := rfl
theorem k359_17 : a_bl 359 17 = [o_al 1, o_al 0, o_il 3, o_I (J 1), o_bin 0, o_iald, o_call 157, o_al 2, o_al 0, o_il 3, o_I (J 1), o_bin 0, o_iald, o_call 263, o_ic 0 53, o_I (J 0), o_ret 1] := rfl
theorem k359_18 : a_bl 359 18 = [o_al 1, o_al 0, o_il 3, o_I (J 1), o_bin 0, o_iald, o_al 0, o_il 3, o_I (J 2), o_bin 0, o_iald, o_call 159, o_al 2, o_al 0, o_il 3, o_I (J 1), o_bin 0, o_iald, o_al 0, o_il 3, o_I (J 2), o_bin 0, o_iald, o_call 268, o_ic 0 53, o_I (J 0), o_ret 1] := rfl
theorem k359_19 : a_bl 359 19 = [o_al 1, o_al 0, o_il 3, o_I (J 1), o_bin 0, o_iald, o_al 0, o_il 3, o_I (J 2), o_bin 0, o_iald, o_al 0, o_il 3, o_I (J 3), o_bin 0, o_iald, o_call 160, o_al 2, o_al 0, o_il 3, o_I (J 1), o_bin 0, o_iald, o_al 0, o_il 3, o_I (J 2), o_bin 0, o_iald, o_al 0, o_il 3, o_I (J 3), o_bin 0, o_iald, o_call 269, o_ic 0 53, o_I (J 0), o_ret 1] := rfl
theorem k359_20 : a_bl 359 20 = [o_al 1, o_al 0, o_il 3, o_I (J 1), o_bin 0, o_iald, o_call 161, o_al 2, o_al 0, o_il 3, o_I (J 1), o_bin 0, o_iald, o_call 270, o_ic 0 53, o_I (J 0), o_ret 1] := rfl
theorem k359_21 : a_bl 359 21 = [o_al 1, o_al 0, o_il 3, o_I (J 1), o_bin 0, o_iald, o_al 0, o_il 3, o_I (J 2), o_bin 0, o_iald, o_call 162, o_al 2, o_al 0, o_il 3, o_I (J 1), o_bin 0, o_iald, o_al 0, o_il 3, o_I (J 2), o_bin 0, o_iald, o_call 271, o_ic 0 53, o_I (J 0), o_ret 1] := rfl
theorem k359_22 : a_bl 359 22 = [o_al 1, o_call 163, o_al 2, o_call 272, o_ic 0 53, o_I (J 0), o_ret 1] := rfl
theorem k359_23 : a_bl 359 23 = [o_al 1, o_al 0, o_il 3, o_I (J 1), o_bin 0, o_iald, o_al 0, o_il 3, o_I (J 2), o_bin 0, o_iald, o_call 164, o_al 2, o_al 0, o_il 3, o_I (J 1), o_bin 0, o_iald, o_al 0, o_il 3, o_I (J 2), o_bin 0, o_iald, o_call 273, o_ic 0 53, o_I (J 0), o_ret 1] := rfl
theorem k359_24 : a_bl 359 24 = [o_al 1, o_al 0, o_il 3, o_I (J 1), o_bin 0, o_iald, o_call 165, o_al 2, o_al 0, o_il 3, o_I (J 1), o_bin 0, o_iald, o_call 279, o_ic 0 53, o_I (J 0), o_ret 1] := rfl
theorem k359_25 : a_bl 359 25 = [o_al 1, o_al 0, o_il 3, o_I (J 1), o_bin 0, o_iald, o_al 0, o_il 3, o_I (J 2), o_bin 0, o_iald, o_al 0, o_il 3, o_I (J 3), o_bin 0, o_iald, o_al 0, o_il 3, o_I (J 4), o_bin 0, o_iald, o_al 0, o_il 3, o_I (J 5), o_bin 0, o_iald, o_call 166, o_al 2, o_al 0, o_il 3, o_I (J 1), o_bin 0, o_iald, o_al 0, o_il 3, o_I (J 2), o_bin 0, o_iald, o_al 0, o_il 3, o_I (J 3), o_bin 0, o_iald, o_al 0, o_il 3, o_I (J 4), o_bin 0, o_iald, o_al 0, o_il 3, o_I (J 5), o_bin 0, o_iald, o_call 280, o_ic 0 53, o_I (J 0), o_ret 1] := rfl
theorem k359_26 : a_bl 359 26 = [o_al 1, o_al 0, o_il 3, o_I (J 1), o_bin 0, o_iald, o_al 0, o_il 3, o_I (J 2), o_bin 0, o_iald, o_al 0, o_il 3, o_I (J 3), o_bin 0, o_iald, o_al 0, o_il 3, o_I (J 4), o_bin 0, o_iald, o_call 167, o_al 2, o_al 0, o_il 3, o_I (J 1), o_bin 0, o_iald, o_al 0, o_il 3, o_I (J 2), o_bin 0, o_iald, o_al 0, o_il 3, o_I (J 3), o_bin 0, o_iald, o_al 0, o_il 3, o_I (J 4), o_bin 0, o_iald, o_call 283, o_ic 0 53, o_I (J 0), o_ret 1] := rfl
theorem k359_27 : a_bl 359 27 = [o_al 1, o_al 0, o_il 3, o_I (J 1), o_bin 0, o_iald, o_al 0, o_il 3, o_I (J 2), o_bin 0, o_iald, o_call 170, o_al 2, o_al 0, o_il 3, o_I (J 1), o_bin 0, o_iald, o_al 0, o_il 3, o_I (J 2), o_bin 0, o_iald, o_call 284, o_ic 0 53, o_I (J 0), o_ret 1] := rfl
theorem k359_28 : a_bl 359 28 = [o_al 1, o_al 0, o_il 3, o_I (J 1), o_bin 0, o_iald, o_al 0, o_il 3, o_I (J 2), o_bin 0, o_iald, o_al 0, o_il 3, o_I (J 3), o_bin 0, o_iald, o_call 172, o_al 2, o_al 0, o_il 3, o_I (J 1), o_bin 0, o_iald, o_al 0, o_il 3, o_I (J 2), o_bin 0, o_iald, o_al 0, o_il 3, o_I (J 3), o_bin 0, o_iald, o_call 285, o_ic 0 53, o_I (J 0), o_ret 1] := rfl
theorem k359_29 : a_bl 359 29 = [o_al 1, o_al 0, o_il 3, o_I (J 1), o_bin 0, o_iald, o_al 0, o_il 3, o_I (J 2), o_bin 0, o_iald, o_call 174, o_al 2, o_al 0, o_il 3, o_I (J 1), o_bin 0, o_iald, o_al 0, o_il 3, o_I (J 2), o_bin 0, o_iald, o_call 290, o_ic 0 53, o_I (J 0), o_ret 1] := rfl
theorem k359_30 : a_bl 359 30 = [o_al 1, o_al 0, o_il 3, o_I (J 1), o_bin 0, o_iald, o_al 0, o_il 3, o_I (J 2), o_bin 0, o_iald, o_al 0, o_il 3, o_I (J 3), o_bin 0, o_iald, o_call 175, o_al 2, o_al 0, o_il 3, o_I (J 1), o_bin 0, o_iald, o_al 0, o_il 3, o_I (J 2), o_bin 0, o_iald, o_al 0, o_il 3, o_I (J 3), o_bin 0, o_iald, o_call 293, o_ic 0 53, o_I (J 0), o_ret 1] := rfl
theorem k359_31 : a_bl 359 31 = [o_al 1, o_al 0, o_il 3, o_I (J 1), o_bin 0, o_iald, o_al 0, o_il 3, o_I (J 2), o_bin 0, o_iald, o_al 0, o_il 3, o_I (J 3), o_bin 0, o_iald, o_al 0, o_il 3, o_I (J 4), o_bin 0, o_iald, o_call 176, o_al 2, o_al 0, o_il 3, o_I (J 1), o_bin 0, o_iald, o_al 0, o_il 3, o_I (J 2), o_bin 0, o_iald, o_al 0, o_il 3, o_I (J 3), o_bin 0, o_iald, o_al 0, o_il 3, o_I (J 4), o_bin 0, o_iald, o_call 297, o_ic 0 53, o_I (J 0), o_ret 1] := rfl
theorem k359_32 : a_bl 359 32 = [o_al 1, o_al 0, o_il 3, o_I (J 1), o_bin 0, o_iald, o_al 0, o_il 3, o_I (J 2), o_bin 0, o_iald, o_al 0, o_il 3, o_I (J 3), o_bin 0, o_iald, o_al 0, o_il 3, o_I (J 4), o_bin 0, o_iald, o_call 179, o_al 2, o_al 0, o_il 3, o_I (J 1), o_bin 0, o_iald, o_al 0, o_il 3, o_I (J 2), o_bin 0, o_iald, o_al 0, o_il 3, o_I (J 3), o_bin 0, o_iald, o_al 0, o_il 3, o_I (J 4), o_bin 0, o_iald, o_call 298, o_ic 0 53, o_I (J 0), o_ret 1] := rfl
theorem k359_33 : a_bl 359 33 = [o_al 1, o_call 180, o_al 2, o_call 299, o_ic 0 53, o_I (J 0), o_ret 1] := rfl
theorem k359_34 : a_bl 359 34 = [o_al 1, o_al 0, o_il 3, o_I (J 1), o_bin 0, o_iald, o_call 181, o_al 2, o_al 0, o_il 3, o_I (J 1), o_bin 0, o_iald, o_call 301, o_ic 0 53, o_I (J 0), o_ret 1] := rfl
theorem k359_35 : a_bl 359 35 = [o_al 1, o_call 182, o_al 2, o_call 302, o_ic 0 53, o_I (J 0), o_ret 1] := rfl
theorem k359_36 : a_bl 359 36 = [o_al 1, o_al 0, o_il 3, o_I (J 1), o_bin 0, o_iald, o_al 0, o_il 3, o_I (J 2), o_bin 0, o_iald, o_call 183, o_al 2, o_al 0, o_il 3, o_I (J 1), o_bin 0, o_iald, o_al 0, o_il 3, o_I (J 2), o_bin 0, o_iald, o_call 305, o_ic 0 53, o_I (J 0), o_ret 1] := rfl
theorem k359_37 : a_bl 359 37 = [o_al 1, o_al 0, o_il 3, o_I (J 1), o_bin 0, o_iald, o_al 0, o_il 3, o_I (J 2), o_bin 0, o_iald, o_call 184, o_al 2, o_al 0, o_il 3, o_I (J 1), o_bin 0, o_iald, o_al 0, o_il 3, o_I (J 2), o_bin 0, o_iald, o_call 306, o_ic 0 53, o_I (J 0), o_ret 1] := rfl
theorem k359_38 : a_bl 359 38 = [o_al 1, o_al 0, o_il 3, o_I (J 1), o_bin 0, o_iald, o_al 0, o_il 3, o_I (J 2), o_bin 0, o_iald, o_al 0, o_il 3, o_I (J 3), o_bin 0, o_iald, o_al 0, o_il 3, o_I (J 4), o_bin 0, o_iald, o_call 185, o_al 2, o_al 0, o_il 3, o_I (J 1), o_bin 0, o_iald, o_al 0, o_il 3, o_I (J 2), o_bin 0, o_iald, o_al 0, o_il 3, o_I (J 3), o_bin 0, o_iald, o_al 0, o_il 3, o_I (J 4), o_bin 0, o_iald, o_call 307, o_ic 0 53, o_I (J 0), o_ret 1] := rfl
theorem k359_39 : a_bl 359 39 = [o_al 1, o_al 0, o_il 3, o_I (J 1), o_bin 0, o_iald, o_al 0, o_il 3, o_I (J 2), o_bin 0, o_iald, o_call 186, o_al 2, o_al 0, o_il 3, o_I (J 1), o_bin 0, o_iald, o_al 0, o_il 3, o_I (J 2), o_bin 0, o_iald, o_call 308, o_ic 0 53, o_I (J 0), o_ret 1] := rfl
theorem k359_40 : a_bl 359 40 = [o_al 1, o_al 0, o_il 3, o_I (J 1), o_bin 0, o_iald, o_al 0, o_il 3, o_I (J 2), o_bin 0, o_iald, o_al 0, o_il 3, o_I (J 3), o_bin 0, o_iald, o_al 0, o_il 3, o_I (J 4), o_bin 0, o_iald, o_al 0, o_il 3, o_I (J 5), o_bin 0, o_iald, o_call 187, o_al 2, o_al 0, o_il 3, o_I (J 1), o_bin 0, o_iald, o_al 0, o_il 3, o_I (J 2), o_bin 0, o_iald, o_al 0, o_il 3, o_I (J 3), o_bin 0, o_iald, o_al 0, o_il 3, o_I (J 4), o_bin 0, o_iald, o_al 0, o_il 3, o_I (J 5), o_bin 0, o_iald, o_call 309, o_ic 0 53, o_I (J 0), o_ret 1] := rfl
theorem k359_41 : a_bl 359 41 = [o_al 1, o_al 0, o_il 3, o_I (J 1), o_bin 0, o_iald, o_al 0, o_il 3, o_I (J 2), o_bin 0, o_iald, o_al 0, o_il 3, o_I (J 3), o_bin 0, o_iald, o_call 190, o_al 2, o_al 0, o_il 3, o_I (J 1), o_bin 0, o_iald, o_al 0, o_il 3, o_I (J 2), o_bin 0, o_iald, o_al 0, o_il 3, o_I (J 3), o_bin 0, o_iald, o_call 311, o_ic 0 53, o_I (J 0), o_ret 1] := rfl
theorem k359_42 : a_bl 359 42 = [o_al 1, o_al 0, o_il 3, o_I (J 1), o_bin 0, o_iald, o_al 0, o_il 3, o_I (J 2), o_bin 0, o_iald, o_al 0, o_il 3, o_I (J 3), o_bin 0, o_iald, o_al 0, o_il 3, o_I (J 4), o_bin 0, o_iald, o_call 192, o_al 2, o_al 0, o_il 3, o_I (J 1), o_bin 0, o_iald, o_al 0, o_il 3, o_I (J 2), o_bin 0, o_iald, o_al 0, o_il 3, o_I (J 3), o_bin 0, o_iald, o_al 0, o_il 3, o_I (J 4), o_bin 0, o_iald, o_call 314, o_ic 0 53, o_I (J 0), o_ret 1] := rfl
theorem k359_43 : a_bl 359 43 = [o_al 1, o_call 193, o_al 2, o_call 315, o_ic 0 53, o_I (J 0), o_ret 1] := rfl
theorem k359_44 : a_bl 359 44 = [o_al 1, o_call 194, o_al 2, o_call 322, o_ic 0 53, o_I (J 0), o_ret 1] := rfl
theorem k359_45 : a_bl 359 45 = [o_al 1, o_al 0, o_il 3, o_I (J 1), o_bin 0, o_iald, o_al 0, o_il 3, o_I (J 2), o_bin 0, o_iald, o_al 0, o_il 3, o_I (J 3), o_bin 0, o_iald, o_al 0, o_il 3, o_I (J 4), o_bin 0, o_iald, o_call 195, o_al 2, o_al 0, o_il 3, o_I (J 1), o_bin 0, o_iald, o_al 0, o_il 3, o_I (J 2), o_bin 0, o_iald, o_al 0, o_il 3, o_I (J 3), o_bin 0, o_iald, o_al 0, o_il 3, o_I (J 4), o_bin 0, o_iald, o_call 323, o_ic 0 53, o_I (J 0), o_ret 1] := rfl
theorem k359_46 : a_bl 359 46 = [o_al 1, o_al 0, o_il 3, o_I (J 1), o_bin 0, o_iald, o_al 0, o_il 3, o_I (J 2), o_bin 0, o_iald, o_call 202, o_al 2, o_al 0, o_il 3, o_I (J 1), o_bin 0, o_iald, o_al 0, o_il 3, o_I (J 2), o_bin 0, o_iald, o_call 330, o_ic 0 53, o_I (J 0), o_ret 1] := rfl
theorem k359_47 : a_bl 359 47 = [o_al 1, o_al 0, o_il 3, o_I (J 1), o_bin 0, o_iald, o_al 0, o_il 3, o_I (J 2), o_bin 0, o_iald, o_al 0, o_il 3, o_I (J 3), o_bin 0, o_iald, o_call 203, o_al 2, o_al 0, o_il 3, o_I (J 1), o_bin 0, o_iald, o_al 0, o_il 3, o_I (J 2), o_bin 0, o_iald, o_al 0, o_il 3, o_I (J 3), o_bin 0, o_iald, o_call 331, o_ic 0 53, o_I (J 0), o_ret 1] := rfl
theorem k359_48 : a_bl 359 48 = [o_al 1, o_al 0, o_il 3, o_I (J 1), o_bin 0, o_iald, o_al 0, o_il 3, o_I (J 2), o_bin 0, o_iald, o_al 0, o_il 3, o_I (J 3), o_bin 0, o_iald, o_call 204, o_al 2, o_al 0, o_il 3, o_I (J 1), o_bin 0, o_iald, o_al 0, o_il 3, o_I (J 2), o_bin 0, o_iald, o_al 0, o_il 3, o_I (J 3), o_bin 0, o_iald, o_call 333, o_ic 0 53, o_I (J 0), o_ret 1] := rfl
theorem k359_49 : a_bl 359 49 = [o_al 1, o_al 0, o_il 3, o_I (J 1), o_bin 0, o_iald, o_al 0, o_il 3, o_I (J 2), o_bin 0, o_iald, o_call 205, o_al 2, o_al 0, o_il 3, o_I (J 1), o_bin 0, o_iald, o_al 0, o_il 3, o_I (J 2), o_bin 0, o_iald, o_call 334, o_ic 0 53, o_I (J 0), o_ret 1] := rfl
theorem k359_50 : a_bl 359 50 = [o_al 1, o_al 0, o_il 3, o_I (J 1), o_bin 0, o_iald, o_al 0, o_il 3, o_I (J 2), o_bin 0, o_iald, o_call 206, o_al 2, o_al 0, o_il 3, o_I (J 1), o_bin 0, o_iald, o_al 0, o_il 3, o_I (J 2), o_bin 0, o_iald, o_call 335, o_ic 0 53, o_I (J 0), o_ret 1] := rfl
theorem k359_51 : a_bl 359 51 = [o_al 1, o_al 0, o_il 3, o_I (J 1), o_bin 0, o_iald, o_call 208, o_al 2, o_al 0, o_il 3, o_I (J 1), o_bin 0, o_iald, o_call 336, o_ic 0 53, o_I (J 0), o_ret 1] := rfl
theorem k359_52 : a_bl 359 52 = [o_al 1, o_al 0, o_il 3, o_I (J 1), o_bin 0, o_iald, o_call 209, o_al 2, o_al 0, o_il 3, o_I (J 1), o_bin 0, o_iald, o_call 337, o_ic 0 53, o_I (J 0), o_ret 1] := rfl
theorem k359_53 : a_bl 359 53 = [o_iinc 3 (J 6), o_goto 1] := rfl
theorem k359_54 : a_bl 359 54 = [o_I (J 1), o_ret 1] := rfl
theorem k359_r : a_rt 359 = (some .boolean) := rfl
theorem k359_s {E : AEn} {hi : AHi} {hr : AHr} {n : Nat} {Q : ARs → Prop} (x0 : Nat) : Sp E 359 [.ref x0] hi hr n Q ↔ Tm E 359 (a_bl 359 0) [.ref x0, a_mk, a_mk, a_mk] [] hi hr n Q := Iff.rfl
theorem K359 : (type_of% k359_0) ∧ (type_of% k359_2) ∧ (type_of% k359_3) ∧ (type_of% k359_4) ∧ (type_of% k359_5) ∧ (type_of% k359_6) ∧ (type_of% k359_7) ∧ (type_of% k359_8) ∧ (type_of% k359_9) ∧ (type_of% k359_10) ∧ (type_of% k359_11) ∧ (type_of% k359_12) ∧ (type_of% k359_13) ∧ (type_of% k359_14) ∧ (type_of% k359_15) ∧ (type_of% k359_16) ∧ (type_of% k359_17) ∧ (type_of% k359_18) ∧ (type_of% k359_19) ∧ (type_of% k359_20) ∧ (type_of% k359_21) ∧ (type_of% k359_22) ∧ (type_of% k359_23) ∧ (type_of% k359_24) ∧ (type_of% k359_25) ∧ (type_of% k359_26) ∧ (type_of% k359_27) ∧ (type_of% k359_28) ∧ (type_of% k359_29) ∧ (type_of% k359_30) ∧ (type_of% k359_31) ∧ (type_of% k359_32) ∧ (type_of% k359_33) ∧ (type_of% k359_34) ∧ (type_of% k359_35) ∧ (type_of% k359_36) ∧ (type_of% k359_37) ∧ (type_of% k359_38) ∧ (type_of% k359_39) ∧ (type_of% k359_40) ∧ (type_of% k359_41) ∧ (type_of% k359_42) ∧ (type_of% k359_43) ∧ (type_of% k359_44) ∧ (type_of% k359_45) ∧ (type_of% k359_46) ∧ (type_of% k359_47) ∧ (type_of% k359_48) ∧ (type_of% k359_49) ∧ (type_of% k359_50) ∧ (type_of% k359_51) ∧ (type_of% k359_52) ∧ (type_of% k359_53) ∧ (type_of% k359_54) ∧ (type_of% k359_r) ∧ (type_of% @k359_s) := ⟨k359_0, k359_2, k359_3, k359_4, k359_5, k359_6, k359_7, k359_8, k359_9, k359_10, k359_11, k359_12, k359_13, k359_14, k359_15, k359_16, k359_17, k359_18, k359_19, k359_20, k359_21, k359_22, k359_23, k359_24, k359_25, k359_26, k359_27, k359_28, k359_29, k359_30, k359_31, k359_32, k359_33, k359_34, k359_35, k359_36, k359_37, k359_38, k359_39, k359_40, k359_41, k359_42, k359_43, k359_44, k359_45, k359_46, k359_47, k359_48, k359_49, k359_50, k359_51, k359_52, k359_53, k359_54, k359_r, @k359_s⟩
