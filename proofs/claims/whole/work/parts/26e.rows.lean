/-! Rows of the blocks, by program (wip/whole/gen/emit_rows.py) -/
/-! CartoonHouseModel.draws(III)V -/
theorem k251_0 : a_bl 251 0 = [o_I (J 0), o_is 4, o_ft 1] := rfl
theorem k251_1 : a_bl 251 1 = [o_il 4, o_I (J 1536), o_ic 3 2, o_al 0, o_getR 11 29, o_il 4, o_I (J 0), o_iast, o_iinc 4 (J 1), o_goto 1] := rfl
theorem k251_2 : a_bl 251 2 = [o_I (J 0), o_is 4, o_ft 3] := rfl
theorem k251_3 : a_bl 251 3 = [o_il 4, o_al 0, o_getR 11 8, o_il 1, o_iald, o_ic 3 11, o_I (J 8), o_il 1, o_bin 2, o_il 4, o_bin 0, o_is 5, o_I (J 0), o_is 6, o_ft 4] := rfl
theorem k251_4 : a_bl 251 4 = [o_il 6, o_al 0, o_getR 11 10, o_il 5, o_iald, o_ic 3 6, o_I (J 0), o_is 7, o_I (J 0), o_is 8, o_il 2, o_if 2 5, o_al 0, o_getR 11 76, o_il 2, o_iald, o_if 5 5, o_I (J 2), o_al 0, o_getR 11 77, o_il 2, o_iald, o_bin 2, o_I (J 1), o_bin 0, o_is 9, o_al 0, o_getR 11 78, o_il 2, o_iald, o_il 3, o_al 0, o_getR 11 76, o_il 2, o_iald, o_bin 9, o_il 4, o_il 6, o_I (J 0), o_call 252, o_I (J 8), o_bin 8, o_il 9, o_bin 10, o_al 0, o_getR 11 77, o_il 2, o_iald, o_bin 1, o_is 7, o_al 0, o_getR 11 78, o_il 2, o_iald, o_il 3, o_al 0, o_getR 11 76, o_il 2, o_iald, o_bin 9, o_il 4, o_il 6, o_I (J 1), o_call 252, o_I (J 8), o_bin 8, o_il 9, o_bin 10, o_al 0, o_getR 11 77, o_il 2, o_iald, o_bin 1, o_is 8, o_ft 5] := rfl
theorem k251_5 : a_bl 251 5 = [o_al 0, o_getR 11 27, o_I (J 10), o_il 4, o_bin 2, o_il 6, o_bin 0, o_al 0, o_getR 11 11, o_I (J 10), o_il 5, o_bin 2, o_il 6, o_bin 0, o_iald, o_il 7, o_bin 0, o_I (J 47), o_call 253, o_iast, o_al 0, o_getR 11 28, o_I (J 10), o_il 4, o_bin 2, o_il 6, o_bin 0, o_al 0, o_getR 11 12, o_I (J 10), o_il 5, o_bin 2, o_il 6, o_bin 0, o_iald, o_il 8, o_bin 0, o_I (J 31), o_call 253, o_iast, o_iinc 6 (J 1), o_goto 4] := rfl
theorem k251_6 : a_bl 251 6 = [o_I (J 10), o_il 4, o_bin 2, o_is 6, o_ft 7] := rfl
theorem k251_7 : a_bl 251 7 = [o_il 6, o_I (J 10), o_il 4, o_bin 2, o_al 0, o_getR 11 10, o_il 5, o_iald, o_bin 0, o_I (J 1), o_bin 1, o_ic 3 10, o_al 0, o_getR 11 27, o_il 6, o_iald, o_al 0, o_getR 11 28, o_il 6, o_iald, o_al 0, o_getR 11 27, o_il 6, o_I (J 1), o_bin 0, o_iald, o_al 0, o_getR 11 28, o_il 6, o_I (J 1), o_bin 0, o_iald, o_call 239, o_is 7, o_I (J 0), o_is 8, o_ft 8] := rfl
theorem k251_8 : a_bl 251 8 = [o_il 8, o_il 7, o_ic 4 9, o_al 0, o_al 0, o_getR 11 27, o_il 6, o_iald, o_al 0, o_getR 11 28, o_il 6, o_iald, o_al 0, o_getR 11 27, o_il 6, o_I (J 1), o_bin 0, o_iald, o_al 0, o_getR 11 28, o_il 6, o_I (J 1), o_bin 0, o_iald, o_il 8, o_call 242, o_al 0, o_getR 11 29, o_I (J 48), o_al 0, o_getI 11 17, o_bin 2, o_al 0, o_getI 11 16, o_bin 0, o_al 0, o_getR 11 9, o_il 5, o_iald, o_iast, o_iinc 8 (J 1), o_goto 8] := rfl
theorem k251_9 : a_bl 251 9 = [o_iinc 6 (J 1), o_goto 7] := rfl
theorem k251_10 : a_bl 251 10 = [o_iinc 4 (J 1), o_goto 3] := rfl
theorem k251_11 : a_bl 251 11 = [o_ret 0] := rfl
theorem k251_r : a_rt 251 = none := rfl
theorem k251_s {E : AEn} {hi : AHi} {hr : AHr} {n : Nat} {Q : ARs → Prop} (x0 : Nat) (x1 : Int32) (x2 : Int32) (x3 : Int32) : Sp E 251 [.ref x0, .int x1, .int x2, .int x3] hi hr n Q ↔ Tm E 251 (a_bl 251 0) [.ref x0, .int x1, .int x2, .int x3, a_mk, a_mk, a_mk, a_mk, a_mk, a_mk] [] hi hr n Q := Iff.rfl
theorem K251 : (type_of% k251_0) ∧ (type_of% k251_2) ∧ (type_of% k251_5) ∧ (type_of% k251_6) ∧ (type_of% k251_9) ∧ (type_of% k251_10) ∧ (type_of% k251_11) ∧ (type_of% k251_r) ∧ (type_of% @k251_s) := ⟨k251_0, k251_2, k251_5, k251_6, k251_9, k251_10, k251_11, k251_r, @k251_s⟩
theorem c251 {m : Nat} {is : List AOp} {ls st : List Value} {E : AEn} {hi : AHi} {hr : AHr} {n : Nat} {Q : ARs → Prop} (x0 : Nat) (x1 : Int32) (x2 : Int32) (x3 : Int32) : Tm E m (o_call 251 :: is) ls (.int x3 :: .int x2 :: .int x1 :: .ref x0 :: st) hi hr n Q ↔ (a_kd x0 = 11 ∧ x0 < n ∧ st.length ≤ 4) ∧ Sp E 251 [.ref x0, .int x1, .int x2, .int x3] hi hr n (fun r => Tm E m is ls (r.1.toList ++ st) r.2.1 r.2.2.1 r.2.2.2 Q) := T_cI [.int x1, .int x2, .int x3] rfl rfl rfl rfl
/-! CartoonHouseModel.hash(IIIII)I -/
theorem k252_0 : a_bl 252 0 = [o_il 0, o_is 5, o_I (J 0), o_is 6, o_ft 1] := rfl
theorem k252_1 : a_bl 252 1 = [o_il 6, o_I (J 4), o_ic 3 6, o_il 6, o_if 1 2, o_il 1, o_goto 5] := rfl
theorem k252_2 : a_bl 252 2 = [o_il 6, o_I (J 1), o_ic 1 3, o_il 2, o_goto 5] := rfl
theorem k252_3 : a_bl 252 3 = [o_il 6, o_I (J 2), o_ic 1 4, o_il 3, o_goto 5] := rfl
theorem k252_4 : a_bl 252 4 = [o_il 4, o_ft 5] := rfl
theorem k252_5 : a_bl 252 5 = [o_is 7, o_il 5, o_il 7, o_bin 5, o_I (J 16777619), o_bin 2, o_is 5, o_il 5, o_il 5, o_I (J 15), o_bin 8, o_bin 5, o_is 5, o_iinc 6 (J 1), o_goto 1] := rfl
theorem k252_6 : a_bl 252 6 = [o_il 5, o_ret 1] := rfl
theorem k252_r : a_rt 252 = (some .int) := rfl
theorem k252_s {E : AEn} {hi : AHi} {hr : AHr} {n : Nat} {Q : ARs → Prop} (x0 : Int32) (x1 : Int32) (x2 : Int32) (x3 : Int32) (x4 : Int32) : Sp E 252 [.int x0, .int x1, .int x2, .int x3, .int x4] hi hr n Q ↔ Tm E 252 (a_bl 252 0) [.int x0, .int x1, .int x2, .int x3, .int x4, a_mk, a_mk, a_mk] [] hi hr n Q := Iff.rfl
theorem K252 : (type_of% k252_0) ∧ (type_of% k252_2) ∧ (type_of% k252_3) ∧ (type_of% k252_4) ∧ (type_of% k252_5) ∧ (type_of% k252_6) ∧ (type_of% k252_r) ∧ (type_of% @k252_s) := ⟨k252_0, k252_2, k252_3, k252_4, k252_5, k252_6, k252_r, @k252_s⟩
theorem c252 {m : Nat} {is : List AOp} {ls st : List Value} {E : AEn} {hi : AHi} {hr : AHr} {n : Nat} {Q : ARs → Prop} (x0 : Int32) (x1 : Int32) (x2 : Int32) (x3 : Int32) (x4 : Int32) : Tm E m (o_call 252 :: is) ls (.int x4 :: .int x3 :: .int x2 :: .int x1 :: .int x0 :: st) hi hr n Q ↔ st.length ≤ 4 ∧ Sp E 252 [.int x0, .int x1, .int x2, .int x3, .int x4] hi hr n (fun r => Tm E m is ls (r.1.toList ++ st) r.2.1 r.2.2.1 r.2.2.2 Q) := T_cS [.int x0, .int x1, .int x2, .int x3, .int x4] rfl rfl
/-! CartoonHouseModel.kept(II)I -/
theorem k253_0 : a_bl 253 0 = [o_il 0, o_if 3 1, o_I (J 0), o_goto 3] := rfl
theorem k253_1 : a_bl 253 1 = [o_il 0, o_il 1, o_ic 5 2, o_il 1, o_goto 3] := rfl
theorem k253_2 : a_bl 253 2 = [o_il 0, o_ft 3] := rfl
theorem k253_3 : a_bl 253 3 = [o_ret 1] := rfl
theorem k253_r : a_rt 253 = (some .int) := rfl
theorem k253_s {E : AEn} {hi : AHi} {hr : AHr} {n : Nat} {Q : ARs → Prop} (x0 : Int32) (x1 : Int32) : Sp E 253 [.int x0, .int x1] hi hr n Q ↔ Tm E 253 (a_bl 253 0) [.int x0, .int x1] [] hi hr n Q := Iff.rfl
theorem K253 : (type_of% k253_0) ∧ (type_of% k253_1) ∧ (type_of% k253_2) ∧ (type_of% k253_3) ∧ (type_of% k253_r) ∧ (type_of% @k253_s) := ⟨k253_0, k253_1, k253_2, k253_3, k253_r, @k253_s⟩
theorem c253 {m : Nat} {is : List AOp} {ls st : List Value} {E : AEn} {hi : AHi} {hr : AHr} {n : Nat} {Q : ARs → Prop} (x0 : Int32) (x1 : Int32) : Tm E m (o_call 253 :: is) ls (.int x1 :: .int x0 :: st) hi hr n Q ↔ st.length ≤ 4 ∧ Sp E 253 [.int x0, .int x1] hi hr n (fun r => Tm E m is ls (r.1.toList ++ st) r.2.1 r.2.2.1 r.2.2.2 Q) := T_cS [.int x0, .int x1] rfl rfl
/-! CartoonHouseModel.comesFrom(IIII)V -/
theorem k254_0 : a_bl 254 0 = [o_al 0, o_il 1, o_il 4, o_call 255, o_I (J 0), o_is 5, o_ft 1] := rfl
theorem k254_1 : a_bl 254 1 = [o_il 5, o_I (J 1536), o_ic 3 2, o_al 0, o_getR 11 32, o_il 5, o_I (J 0), o_bast, o_iinc 5 (J 1), o_goto 1] := rfl
theorem k254_2 : a_bl 254 2 = [o_al 0, o_I (J 0), o_putI 11 36, o_al 0, o_I (J 0), o_putZ 11 37, o_I (J 0), o_is 5, o_al 0, o_getR 11 31, o_I (J 48), o_il 3, o_bin 2, o_il 2, o_bin 0, o_bald, o_if 1 3, o_al 0, o_getR 11 32, o_I (J 48), o_il 3, o_bin 2, o_il 2, o_bin 0, o_I (J 1), o_bast, o_al 0, o_getR 11 33, o_I (J 0), o_I (J 48), o_il 3, o_bin 2, o_il 2, o_bin 0, o_iast, o_I (J 1), o_is 5, o_ft 3] := rfl
theorem k254_3 : a_bl 254 3 = [o_il 5, o_if 5 17, o_iinc 5 (J (-1)), o_al 0, o_getR 11 33, o_il 5, o_iald, o_is 6, o_il 6, o_I (J 48), o_bin 10, o_is 7, o_il 6, o_I (J 48), o_bin 9, o_is 8, o_al 0, o_dup, o_getI 11 36, o_I (J 1), o_bin 0, o_putI 11 36, o_al 0, o_al 0, o_getI 11 37, o_if 1 4, o_il 7, o_if 0 4, o_il 7, o_I (J 47), o_ic 0 4, o_il 8, o_if 0 4, o_il 8, o_I (J 31), o_ic 1 5, o_ft 4] := rfl
theorem k254_4 : a_bl 254 4 = [o_I (J 1), o_goto 6] := rfl
theorem k254_5 : a_bl 254 5 = [o_I (J 0), o_ft 6] := rfl
theorem k254_6 : a_bl 254 6 = [o_putZ 11 37, o_I (J 0), o_is 9, o_ft 7] := rfl
theorem k254_7 : a_bl 254 7 = [o_il 9, o_I (J 4), o_ic 3 16, o_il 7, o_il 9, o_if 1 8, o_I (J (-1)), o_goto 10] := rfl
theorem k254_8 : a_bl 254 8 = [o_il 9, o_I (J 1), o_ic 1 9, o_I (J 1), o_goto 10] := rfl
theorem k254_9 : a_bl 254 9 = [o_I (J 0), o_ft 10] := rfl
theorem k254_10 : a_bl 254 10 = [o_bin 0, o_is 10, o_il 8, o_il 9, o_I (J 2), o_ic 1 11, o_I (J (-1)), o_goto 13] := rfl
theorem k254_11 : a_bl 254 11 = [o_il 9, o_I (J 3), o_ic 1 12, o_I (J 1), o_goto 13] := rfl
theorem k254_12 : a_bl 254 12 = [o_I (J 0), o_ft 13] := rfl
theorem k254_13 : a_bl 254 13 = [o_bin 0, o_is 11, o_il 10, o_il 11, o_call 237, o_if 0 15, o_al 0, o_getR 11 31, o_I (J 48), o_il 11, o_bin 2, o_il 10, o_bin 0, o_bald, o_if 1 15, o_al 0, o_getR 11 32, o_I (J 48), o_il 11, o_bin 2, o_il 10, o_bin 0, o_bald, o_if 0 14, o_goto 15] := rfl
theorem k254_14 : a_bl 254 14 = [o_al 0, o_getR 11 32, o_I (J 48), o_il 11, o_bin 2, o_il 10, o_bin 0, o_I (J 1), o_bast, o_al 0, o_getR 11 33, o_il 5, o_I (J 48), o_il 11, o_bin 2, o_il 10, o_bin 0, o_iast, o_iinc 5 (J 1), o_ft 15] := rfl
theorem k254_15 : a_bl 254 15 = [o_iinc 9 (J 1), o_goto 7] := rfl
theorem k254_16 : a_bl 254 16 = [o_goto 3] := rfl
theorem k254_17 : a_bl 254 17 = [o_ret 0] := rfl
theorem k254_r : a_rt 254 = none := rfl
theorem k254_s {E : AEn} {hi : AHi} {hr : AHr} {n : Nat} {Q : ARs → Prop} (x0 : Nat) (x1 : Int32) (x2 : Int32) (x3 : Int32) (x4 : Int32) : Sp E 254 [.ref x0, .int x1, .int x2, .int x3, .int x4] hi hr n Q ↔ Tm E 254 (a_bl 254 0) [.ref x0, .int x1, .int x2, .int x3, .int x4, a_mk, a_mk, a_mk, a_mk, a_mk, a_mk, a_mk] [] hi hr n Q := Iff.rfl
theorem K254 : (type_of% k254_0) ∧ (type_of% k254_2) ∧ (type_of% k254_4) ∧ (type_of% k254_5) ∧ (type_of% k254_6) ∧ (type_of% k254_8) ∧ (type_of% k254_9) ∧ (type_of% k254_10) ∧ (type_of% k254_11) ∧ (type_of% k254_12) ∧ (type_of% k254_13) ∧ (type_of% k254_14) ∧ (type_of% k254_15) ∧ (type_of% k254_16) ∧ (type_of% k254_17) ∧ (type_of% k254_r) ∧ (type_of% @k254_s) := ⟨k254_0, k254_2, k254_4, k254_5, k254_6, k254_8, k254_9, k254_10, k254_11, k254_12, k254_13, k254_14, k254_15, k254_16, k254_17, k254_r, @k254_s⟩
theorem c254 {m : Nat} {is : List AOp} {ls st : List Value} {E : AEn} {hi : AHi} {hr : AHr} {n : Nat} {Q : ARs → Prop} (x0 : Nat) (x1 : Int32) (x2 : Int32) (x3 : Int32) (x4 : Int32) : Tm E m (o_call 254 :: is) ls (.int x4 :: .int x3 :: .int x2 :: .int x1 :: .ref x0 :: st) hi hr n Q ↔ (a_kd x0 = 11 ∧ x0 < n ∧ st.length ≤ 4) ∧ Sp E 254 [.ref x0, .int x1, .int x2, .int x3, .int x4] hi hr n (fun r => Tm E m is ls (r.1.toList ++ st) r.2.1 r.2.2.1 r.2.2.2 Q) := T_cI [.int x1, .int x2, .int x3, .int x4] rfl rfl rfl rfl
/-! CartoonHouseModel.walls(II)V -/
theorem k255_0 : a_bl 255 0 = [o_I (J 0), o_is 3, o_ft 1] := rfl
theorem k255_1 : a_bl 255 1 = [o_il 3, o_I (J 1536), o_ic 3 4, o_al 0, o_getR 11 31, o_il 3, o_al 0, o_getR 11 29, o_il 3, o_iald, o_if 5 2, o_I (J 1), o_goto 3] := rfl
theorem k255_2 : a_bl 255 2 = [o_I (J 0), o_ft 3] := rfl
theorem k255_3 : a_bl 255 3 = [o_bast, o_iinc 3 (J 1), o_goto 1] := rfl
theorem k255_4 : a_bl 255 4 = [o_I (J 0), o_is 3, o_I (J 0), o_is 4, o_ft 5] := rfl
theorem k255_5 : a_bl 255 5 = [o_il 4, o_al 0, o_getR 11 8, o_il 1, o_iald, o_ic 3 8, o_I (J 10), o_il 4, o_bin 2, o_is 5, o_I (J 10), o_il 4, o_bin 2, o_al 0, o_getR 11 10, o_I (J 8), o_il 1, o_bin 2, o_il 4, o_bin 0, o_iald, o_bin 0, o_I (J 1), o_bin 1, o_is 6, o_al 0, o_getR 11 27, o_il 5, o_iald, o_al 0, o_getR 11 27, o_il 6, o_iald, o_ic 1 6, o_al 0, o_getR 11 28, o_il 5, o_iald, o_al 0, o_getR 11 28, o_il 6, o_iald, o_ic 1 6, o_goto 7] := rfl
theorem k255_6 : a_bl 255 6 = [o_al 0, o_getR 11 34, o_il 3, o_al 0, o_getR 11 27, o_il 5, o_iald, o_iast, o_al 0, o_getR 11 35, o_il 3, o_al 0, o_getR 11 28, o_il 5, o_iald, o_iast, o_al 0, o_getR 11 34, o_il 3, o_I (J 1), o_bin 0, o_al 0, o_getR 11 27, o_il 6, o_iald, o_iast, o_al 0, o_getR 11 35, o_il 3, o_I (J 1), o_bin 0, o_al 0, o_getR 11 28, o_il 6, o_iald, o_iast, o_iinc 3 (J 2), o_ft 7] := rfl
theorem k255_7 : a_bl 255 7 = [o_iinc 4 (J 1), o_goto 5] := rfl
theorem k255_8 : a_bl 255 8 = [o_I (J 0), o_is 4, o_ft 9] := rfl
theorem k255_9 : a_bl 255 9 = [o_il 4, o_il 3, o_ic 3 15, o_il 4, o_I (J 1), o_bin 0, o_is 5, o_ft 10] := rfl
theorem k255_10 : a_bl 255 10 = [o_il 5, o_il 3, o_ic 3 14, o_al 0, o_getR 11 34, o_il 5, o_iald, o_al 0, o_getR 11 34, o_il 4, o_iald, o_bin 1, o_is 6, o_al 0, o_getR 11 35, o_il 5, o_iald, o_al 0, o_getR 11 35, o_il 4, o_iald, o_bin 1, o_is 7, o_il 6, o_il 6, o_bin 2, o_il 7, o_il 7, o_bin 2, o_bin 0, o_is 8, o_il 8, o_if 0 13, o_il 8, o_il 2, o_il 2, o_bin 2, o_ic 5 11, o_goto 13] := rfl
theorem k255_11 : a_bl 255 11 = [o_al 0, o_getR 11 34, o_il 4, o_iald, o_al 0, o_getR 11 35, o_il 4, o_iald, o_al 0, o_getR 11 34, o_il 5, o_iald, o_al 0, o_getR 11 35, o_il 5, o_iald, o_call 239, o_is 9, o_I (J 0), o_is 10, o_ft 12] := rfl
theorem k255_12 : a_bl 255 12 = [o_il 10, o_il 9, o_ic 4 13, o_al 0, o_al 0, o_getR 11 34, o_il 4, o_iald, o_al 0, o_getR 11 35, o_il 4, o_iald, o_al 0, o_getR 11 34, o_il 5, o_iald, o_al 0, o_getR 11 35, o_il 5, o_iald, o_il 10, o_call 242, o_al 0, o_getR 11 31, o_I (J 48), o_al 0, o_getI 11 17, o_bin 2, o_al 0, o_getI 11 16, o_bin 0, o_I (J 1), o_bast, o_iinc 10 (J 1), o_goto 12] := rfl
theorem k255_13 : a_bl 255 13 = [o_iinc 5 (J 1), o_goto 10] := rfl
theorem k255_14 : a_bl 255 14 = [o_iinc 4 (J 1), o_goto 9] := rfl
theorem k255_15 : a_bl 255 15 = [o_ret 0] := rfl
theorem k255_r : a_rt 255 = none := rfl
theorem k255_s {E : AEn} {hi : AHi} {hr : AHr} {n : Nat} {Q : ARs → Prop} (x0 : Nat) (x1 : Int32) (x2 : Int32) : Sp E 255 [.ref x0, .int x1, .int x2] hi hr n Q ↔ Tm E 255 (a_bl 255 0) [.ref x0, .int x1, .int x2, a_mk, a_mk, a_mk, a_mk, a_mk, a_mk, a_mk, a_mk] [] hi hr n Q := Iff.rfl
theorem K255 : (type_of% k255_0) ∧ (type_of% k255_2) ∧ (type_of% k255_3) ∧ (type_of% k255_4) ∧ (type_of% k255_6) ∧ (type_of% k255_7) ∧ (type_of% k255_8) ∧ (type_of% k255_11) ∧ (type_of% k255_13) ∧ (type_of% k255_14) ∧ (type_of% k255_15) ∧ (type_of% k255_r) ∧ (type_of% @k255_s) := ⟨k255_0, k255_2, k255_3, k255_4, k255_6, k255_7, k255_8, k255_11, k255_13, k255_14, k255_15, k255_r, @k255_s⟩
theorem c255 {m : Nat} {is : List AOp} {ls st : List Value} {E : AEn} {hi : AHi} {hr : AHr} {n : Nat} {Q : ARs → Prop} (x0 : Nat) (x1 : Int32) (x2 : Int32) : Tm E m (o_call 255 :: is) ls (.int x2 :: .int x1 :: .ref x0 :: st) hi hr n Q ↔ (a_kd x0 = 11 ∧ x0 < n ∧ st.length ≤ 4) ∧ Sp E 255 [.ref x0, .int x1, .int x2] hi hr n (fun r => Tm E m is ls (r.1.toList ++ st) r.2.1 r.2.2.1 r.2.2.2 Q) := T_cI [.int x1, .int x2] rfl rfl rfl rfl
/-! CartoonHouseModel.unfill(II)I -/
theorem k256_0 : a_bl 256 0 = [o_al 0, o_il 1, o_il 2, o_call 257, o_if 1 1, o_I (J (-1)), o_ret 1] := rfl
theorem k256_1 : a_bl 256 1 = [o_il 2, o_is 3, o_ft 2] := rfl
theorem k256_2 : a_bl 256 2 = [o_il 3, o_al 0, o_getR 11 22, o_il 1, o_iald, o_I (J 1), o_bin 1, o_ic 3 3, o_al 0, o_I (J 6), o_il 1, o_bin 2, o_il 3, o_bin 0, o_I (J 1), o_bin 0, o_I (J 6), o_il 1, o_bin 2, o_il 3, o_bin 0, o_call 258, o_iinc 3 (J 1), o_goto 2] := rfl
theorem k256_3 : a_bl 256 3 = [o_al 0, o_getR 11 22, o_il 1, o_dup2, o_iald, o_I (J 1), o_bin 1, o_iast, o_al 0, o_getR 11 22, o_il 1, o_iald, o_ret 1] := rfl
theorem k256_r : a_rt 256 = (some .int) := rfl
theorem k256_s {E : AEn} {hi : AHi} {hr : AHr} {n : Nat} {Q : ARs → Prop} (x0 : Nat) (x1 : Int32) (x2 : Int32) : Sp E 256 [.ref x0, .int x1, .int x2] hi hr n Q ↔ Tm E 256 (a_bl 256 0) [.ref x0, .int x1, .int x2, a_mk] [] hi hr n Q := Iff.rfl
theorem K256 : (type_of% k256_0) ∧ (type_of% k256_1) ∧ (type_of% k256_3) ∧ (type_of% k256_r) ∧ (type_of% @k256_s) := ⟨k256_0, k256_1, k256_3, k256_r, @k256_s⟩
theorem c256 {m : Nat} {is : List AOp} {ls st : List Value} {E : AEn} {hi : AHi} {hr : AHr} {n : Nat} {Q : ARs → Prop} (x0 : Nat) (x1 : Int32) (x2 : Int32) : Tm E m (o_call 256 :: is) ls (.int x2 :: .int x1 :: .ref x0 :: st) hi hr n Q ↔ (a_kd x0 = 11 ∧ x0 < n ∧ st.length ≤ 4) ∧ Sp E 256 [.ref x0, .int x1, .int x2] hi hr n (fun r => Tm E m is ls (r.1.toList ++ st) r.2.1 r.2.2.1 r.2.2.2 Q) := T_cI [.int x1, .int x2] rfl rfl rfl rfl
/-! CartoonHouseModel.isFill(II)Z -/
theorem k257_0 : a_bl 257 0 = [o_il 1, o_call 218, o_if 0 1, o_il 2, o_I (J 0), o_al 0, o_getR 11 22, o_il 1, o_iald, o_I (J 1), o_bin 1, o_call 219, o_if 0 1, o_I (J 1), o_goto 2] := rfl
theorem k257_1 : a_bl 257 1 = [o_I (J 0), o_ft 2] := rfl
theorem k257_2 : a_bl 257 2 = [o_ret 1] := rfl
theorem k257_r : a_rt 257 = (some .boolean) := rfl
theorem k257_s {E : AEn} {hi : AHi} {hr : AHr} {n : Nat} {Q : ARs → Prop} (x0 : Nat) (x1 : Int32) (x2 : Int32) : Sp E 257 [.ref x0, .int x1, .int x2] hi hr n Q ↔ Tm E 257 (a_bl 257 0) [.ref x0, .int x1, .int x2] [] hi hr n Q := Iff.rfl
theorem K257 : (type_of% k257_0) ∧ (type_of% k257_1) ∧ (type_of% k257_2) ∧ (type_of% k257_r) ∧ (type_of% @k257_s) := ⟨k257_0, k257_1, k257_2, k257_r, @k257_s⟩
theorem c257 {m : Nat} {is : List AOp} {ls st : List Value} {E : AEn} {hi : AHi} {hr : AHr} {n : Nat} {Q : ARs → Prop} (x0 : Nat) (x1 : Int32) (x2 : Int32) : Tm E m (o_call 257 :: is) ls (.int x2 :: .int x1 :: .ref x0 :: st) hi hr n Q ↔ (a_kd x0 = 11 ∧ x0 < n ∧ st.length ≤ 4) ∧ Sp E 257 [.ref x0, .int x1, .int x2] hi hr n (fun r => Tm E m is ls (r.1.toList ++ st) r.2.1 r.2.2.1 r.2.2.2 Q) := T_cI [.int x1, .int x2] rfl rfl rfl rfl
/-! CartoonHouseModel.copiesFill(II)V -/
theorem k258_0 : a_bl 258 0 = [o_al 0, o_getR 11 23, o_il 2, o_al 0, o_getR 11 23, o_il 1, o_iald, o_iast, o_al 0, o_getR 11 24, o_il 2, o_al 0, o_getR 11 24, o_il 1, o_iald, o_iast, o_al 0, o_getR 11 25, o_il 2, o_al 0, o_getR 11 25, o_il 1, o_iald, o_iast, o_al 0, o_getR 11 26, o_il 2, o_al 0, o_getR 11 26, o_il 1, o_iald, o_iast, o_ret 0] := rfl
theorem k258_r : a_rt 258 = none := rfl
theorem k258_s {E : AEn} {hi : AHi} {hr : AHr} {n : Nat} {Q : ARs → Prop} (x0 : Nat) (x1 : Int32) (x2 : Int32) : Sp E 258 [.ref x0, .int x1, .int x2] hi hr n Q ↔ Tm E 258 (a_bl 258 0) [.ref x0, .int x1, .int x2] [] hi hr n Q := Iff.rfl
theorem K258 : (type_of% k258_0) ∧ (type_of% k258_r) ∧ (type_of% @k258_s) := ⟨k258_0, k258_r, @k258_s⟩
theorem c258 {m : Nat} {is : List AOp} {ls st : List Value} {E : AEn} {hi : AHi} {hr : AHr} {n : Nat} {Q : ARs → Prop} (x0 : Nat) (x1 : Int32) (x2 : Int32) : Tm E m (o_call 258 :: is) ls (.int x2 :: .int x1 :: .ref x0 :: st) hi hr n Q ↔ (a_kd x0 = 11 ∧ x0 < n ∧ st.length ≤ 4) ∧ Sp E 258 [.ref x0, .int x1, .int x2] hi hr n (fun r => Tm E m is ls (r.1.toList ++ st) r.2.1 r.2.2.1 r.2.2.2 Q) := T_cI [.int x1, .int x2] rfl rfl rfl rfl
/-! CartoonHouseModel.region(II)I -/
theorem k259_0 : a_bl 259 0 = [o_al 0, o_il 1, o_il 2, o_call 257, o_if 1 1, o_I (J (-1)), o_ret 1] := rfl
theorem k259_1 : a_bl 259 1 = [o_I (J 6), o_il 1, o_bin 2, o_il 2, o_bin 0, o_is 3, o_al 0, o_il 1, o_I (J (-1)), o_I (J 0), o_call 251, o_al 0, o_il 1, o_al 0, o_getR 11 23, o_il 3, o_iald, o_al 0, o_getR 11 24, o_il 3, o_iald, o_al 0, o_getR 11 25, o_il 3, o_iald, o_call 254, o_al 0, o_getI 11 37, o_if 0 2, o_I (J (-5)), o_goto 3] := rfl
theorem k259_2 : a_bl 259 2 = [o_al 0, o_getI 11 36, o_ft 3] := rfl
theorem k259_3 : a_bl 259 3 = [o_ret 1] := rfl
theorem k259_r : a_rt 259 = (some .int) := rfl
theorem k259_s {E : AEn} {hi : AHi} {hr : AHr} {n : Nat} {Q : ARs → Prop} (x0 : Nat) (x1 : Int32) (x2 : Int32) : Sp E 259 [.ref x0, .int x1, .int x2] hi hr n Q ↔ Tm E 259 (a_bl 259 0) [.ref x0, .int x1, .int x2, a_mk] [] hi hr n Q := Iff.rfl
theorem K259 : (type_of% k259_0) ∧ (type_of% k259_1) ∧ (type_of% k259_2) ∧ (type_of% k259_3) ∧ (type_of% k259_r) ∧ (type_of% @k259_s) := ⟨k259_0, k259_1, k259_2, k259_3, k259_r, @k259_s⟩
theorem c259 {m : Nat} {is : List AOp} {ls st : List Value} {E : AEn} {hi : AHi} {hr : AHr} {n : Nat} {Q : ARs → Prop} (x0 : Nat) (x1 : Int32) (x2 : Int32) : Tm E m (o_call 259 :: is) ls (.int x2 :: .int x1 :: .ref x0 :: st) hi hr n Q ↔ (a_kd x0 = 11 ∧ x0 < n ∧ st.length ≤ 4) ∧ Sp E 259 [.ref x0, .int x1, .int x2] hi hr n (fun r => Tm E m is ls (r.1.toList ++ st) r.2.1 r.2.2.1 r.2.2.2 Q) := T_cI [.int x1, .int x2] rfl rfl rfl rfl
/-! CartoonHouseModel.paint(III)I -/
theorem k260_0 : a_bl 260 0 = [o_il 1, o_call 218, o_if 0 1, o_il 2, o_il 3, o_call 237, o_if 1 2, o_ft 1] := rfl
theorem k260_1 : a_bl 260 1 = [o_I (J (-1)), o_ret 1] := rfl
theorem k260_2 : a_bl 260 2 = [o_al 0, o_il 1, o_I (J (-1)), o_I (J 0), o_call 261, o_al 0, o_getR 11 30, o_I (J 48), o_il 3, o_bin 2, o_il 2, o_bin 0, o_iald, o_ret 1] := rfl
theorem k260_r : a_rt 260 = (some .int) := rfl
theorem k260_s {E : AEn} {hi : AHi} {hr : AHr} {n : Nat} {Q : ARs → Prop} (x0 : Nat) (x1 : Int32) (x2 : Int32) (x3 : Int32) : Sp E 260 [.ref x0, .int x1, .int x2, .int x3] hi hr n Q ↔ Tm E 260 (a_bl 260 0) [.ref x0, .int x1, .int x2, .int x3] [] hi hr n Q := Iff.rfl
theorem K260 : (type_of% k260_0) ∧ (type_of% k260_1) ∧ (type_of% k260_2) ∧ (type_of% k260_r) ∧ (type_of% @k260_s) := ⟨k260_0, k260_1, k260_2, k260_r, @k260_s⟩
theorem c260 {m : Nat} {is : List AOp} {ls st : List Value} {E : AEn} {hi : AHi} {hr : AHr} {n : Nat} {Q : ARs → Prop} (x0 : Nat) (x1 : Int32) (x2 : Int32) (x3 : Int32) : Tm E m (o_call 260 :: is) ls (.int x3 :: .int x2 :: .int x1 :: .ref x0 :: st) hi hr n Q ↔ (a_kd x0 = 11 ∧ x0 < n ∧ st.length ≤ 4) ∧ Sp E 260 [.ref x0, .int x1, .int x2, .int x3] hi hr n (fun r => Tm E m is ls (r.1.toList ++ st) r.2.1 r.2.2.1 r.2.2.2 Q) := T_cI [.int x1, .int x2, .int x3] rfl rfl rfl rfl
/-! CartoonHouseModel.paints(III)V -/
theorem k261_0 : a_bl 261 0 = [o_al 0, o_il 1, o_il 2, o_il 3, o_call 251, o_I (J 0), o_is 4, o_ft 1] := rfl
theorem k261_1 : a_bl 261 1 = [o_il 4, o_I (J 1536), o_ic 3 2, o_al 0, o_getR 11 30, o_il 4, o_al 0, o_getR 11 29, o_il 4, o_iald, o_iast, o_iinc 4 (J 1), o_goto 1] := rfl
theorem k261_2 : a_bl 261 2 = [o_I (J 6), o_il 1, o_bin 2, o_is 4, o_ft 3] := rfl
theorem k261_3 : a_bl 261 3 = [o_il 4, o_I (J 6), o_il 1, o_bin 2, o_al 0, o_getR 11 22, o_il 1, o_iald, o_bin 0, o_ic 3 7, o_al 0, o_il 1, o_al 0, o_getR 11 23, o_il 4, o_iald, o_al 0, o_getR 11 24, o_il 4, o_iald, o_al 0, o_getR 11 25, o_il 4, o_iald, o_call 254, o_I (J 0), o_is 5, o_ft 4] := rfl
theorem k261_4 : a_bl 261 4 = [o_il 5, o_I (J 1536), o_ic 3 6, o_al 0, o_getI 11 37, o_if 1 6, o_al 0, o_getR 11 32, o_il 5, o_bald, o_if 0 5, o_al 0, o_getR 11 29, o_il 5, o_iald, o_if 1 5, o_al 0, o_getR 11 30, o_il 5, o_al 0, o_getR 11 26, o_il 4, o_iald, o_iast, o_ft 5] := rfl
theorem k261_5 : a_bl 261 5 = [o_iinc 5 (J 1), o_goto 4] := rfl
theorem k261_6 : a_bl 261 6 = [o_iinc 4 (J 1), o_goto 3] := rfl
theorem k261_7 : a_bl 261 7 = [o_ret 0] := rfl
theorem k261_r : a_rt 261 = none := rfl
theorem k261_s {E : AEn} {hi : AHi} {hr : AHr} {n : Nat} {Q : ARs → Prop} (x0 : Nat) (x1 : Int32) (x2 : Int32) (x3 : Int32) : Sp E 261 [.ref x0, .int x1, .int x2, .int x3] hi hr n Q ↔ Tm E 261 (a_bl 261 0) [.ref x0, .int x1, .int x2, .int x3, a_mk, a_mk] [] hi hr n Q := Iff.rfl
theorem K261 : (type_of% k261_0) ∧ (type_of% k261_2) ∧ (type_of% k261_5) ∧ (type_of% k261_6) ∧ (type_of% k261_7) ∧ (type_of% k261_r) ∧ (type_of% @k261_s) := ⟨k261_0, k261_2, k261_5, k261_6, k261_7, k261_r, @k261_s⟩
theorem c261 {m : Nat} {is : List AOp} {ls st : List Value} {E : AEn} {hi : AHi} {hr : AHr} {n : Nat} {Q : ARs → Prop} (x0 : Nat) (x1 : Int32) (x2 : Int32) (x3 : Int32) : Tm E m (o_call 261 :: is) ls (.int x3 :: .int x2 :: .int x1 :: .ref x0 :: st) hi hr n Q ↔ (a_kd x0 = 11 ∧ x0 < n ∧ st.length ≤ 4) ∧ Sp E 261 [.ref x0, .int x1, .int x2, .int x3] hi hr n (fun r => Tm E m is ls (r.1.toList ++ st) r.2.1 r.2.2.1 r.2.2.2 Q) := T_cI [.int x1, .int x2, .int x3] rfl rfl rfl rfl
/-! CartoonHouseModel.colour(III)I -/
theorem k262_0 : a_bl 262 0 = [o_il 1, o_I (J 0), o_I (J 3), o_call 219, o_if 0 1, o_il 2, o_I (J 1), o_I (J 15), o_call 219, o_if 0 1, o_il 3, o_I (J 0), o_I (J 16777215), o_call 219, o_if 1 2, o_ft 1] := rfl
theorem k262_1 : a_bl 262 1 = [o_I (J (-1)), o_ret 1] := rfl
theorem k262_2 : a_bl 262 2 = [o_al 0, o_getR 11 38, o_I (J 16), o_il 1, o_bin 2, o_il 2, o_bin 0, o_iald, o_is 4, o_al 0, o_getR 11 38, o_I (J 16), o_il 1, o_bin 2, o_il 2, o_bin 0, o_il 3, o_iast, o_il 4, o_ret 1] := rfl
theorem k262_r : a_rt 262 = (some .int) := rfl
theorem k262_s {E : AEn} {hi : AHi} {hr : AHr} {n : Nat} {Q : ARs → Prop} (x0 : Nat) (x1 : Int32) (x2 : Int32) (x3 : Int32) : Sp E 262 [.ref x0, .int x1, .int x2, .int x3] hi hr n Q ↔ Tm E 262 (a_bl 262 0) [.ref x0, .int x1, .int x2, .int x3, a_mk] [] hi hr n Q := Iff.rfl
theorem K262 : (type_of% k262_0) ∧ (type_of% k262_1) ∧ (type_of% k262_2) ∧ (type_of% k262_r) ∧ (type_of% @k262_s) := ⟨k262_0, k262_1, k262_2, k262_r, @k262_s⟩
theorem c262 {m : Nat} {is : List AOp} {ls st : List Value} {E : AEn} {hi : AHi} {hr : AHr} {n : Nat} {Q : ARs → Prop} (x0 : Nat) (x1 : Int32) (x2 : Int32) (x3 : Int32) : Tm E m (o_call 262 :: is) ls (.int x3 :: .int x2 :: .int x1 :: .ref x0 :: st) hi hr n Q ↔ (a_kd x0 = 11 ∧ x0 < n ∧ st.length ≤ 4) ∧ Sp E 262 [.ref x0, .int x1, .int x2, .int x3] hi hr n (fun r => Tm E m is ls (r.1.toList ++ st) r.2.1 r.2.2.1 r.2.2.2 Q) := T_cI [.int x1, .int x2, .int x3] rfl rfl rfl rfl
/-! CartoonHouseModel.sheet(I)I -/
theorem k263_0 : a_bl 263 0 = [o_al 0, o_call 217, o_il 1, o_call 264, o_if 1 1, o_I (J (-1)), o_ret 1] := rfl
theorem k263_1 : a_bl 263 1 = [o_al 0, o_I (J 0), o_putI 11 42, o_al 0, o_getI 11 3, o_if 5 2, o_I (J 1), o_goto 3] := rfl
theorem k263_2 : a_bl 263 2 = [o_I (J 0), o_ft 3] := rfl
theorem k263_3 : a_bl 263 3 = [o_is 2, o_ft 4] := rfl
theorem k263_4 : a_bl 263 4 = [o_al 0, o_call 221, o_if 0 9, o_il 2, o_if 0 9, o_al 0, o_I (J 40), o_call 265, o_if 0 5, o_al 0, o_call 266, o_goto 6] := rfl
theorem k263_5 : a_bl 263 5 = [o_al 0, o_call 267, o_ft 6] := rfl
theorem k263_6 : a_bl 263 6 = [o_al 0, o_getI 11 4, o_al 0, o_getI 11 3, o_ic 3 7, o_I (J 1), o_goto 8] := rfl
theorem k263_7 : a_bl 263 7 = [o_I (J 0), o_ft 8] := rfl
theorem k263_8 : a_bl 263 8 = [o_is 2, o_il 2, o_if 0 4, o_al 0, o_I (J 32), o_call 225, o_goto 4] := rfl
theorem k263_9 : a_bl 263 9 = [o_al 0, o_call 221, o_if 1 10, o_al 0, o_call 226, o_ret 1] := rfl
theorem k263_10 : a_bl 263 10 = [o_al 0, o_getR 11 40, o_il 1, o_al 0, o_getI 11 42, o_iast, o_I (J 0), o_is 3, o_ft 11] := rfl
theorem k263_11 : a_bl 263 11 = [o_il 3, o_al 0, o_getI 11 42, o_ic 3 12, o_al 0, o_getR 11 39, o_I (J 120), o_il 1, o_bin 2, o_il 3, o_bin 0, o_al 0, o_getR 11 41, o_il 3, o_iald, o_iast, o_iinc 3 (J 1), o_goto 11] := rfl
theorem k263_12 : a_bl 263 12 = [o_al 0, o_getI 11 42, o_ret 1] := rfl
theorem k263_r : a_rt 263 = (some .int) := rfl
theorem k263_s {E : AEn} {hi : AHi} {hr : AHr} {n : Nat} {Q : ARs → Prop} (x0 : Nat) (x1 : Int32) : Sp E 263 [.ref x0, .int x1] hi hr n Q ↔ Tm E 263 (a_bl 263 0) [.ref x0, .int x1, a_mk, a_mk] [] hi hr n Q := Iff.rfl
theorem K263 : (type_of% k263_0) ∧ (type_of% k263_1) ∧ (type_of% k263_2) ∧ (type_of% k263_3) ∧ (type_of% k263_5) ∧ (type_of% k263_6) ∧ (type_of% k263_7) ∧ (type_of% k263_8) ∧ (type_of% k263_9) ∧ (type_of% k263_10) ∧ (type_of% k263_12) ∧ (type_of% k263_r) ∧ (type_of% @k263_s) := ⟨k263_0, k263_1, k263_2, k263_3, k263_5, k263_6, k263_7, k263_8, k263_9, k263_10, k263_12, k263_r, @k263_s⟩
theorem c263 {m : Nat} {is : List AOp} {ls st : List Value} {E : AEn} {hi : AHi} {hr : AHr} {n : Nat} {Q : ARs → Prop} (x0 : Nat) (x1 : Int32) : Tm E m (o_call 263 :: is) ls (.int x1 :: .ref x0 :: st) hi hr n Q ↔ (a_kd x0 = 11 ∧ x0 < n ∧ st.length ≤ 4) ∧ Sp E 263 [.ref x0, .int x1] hi hr n (fun r => Tm E m is ls (r.1.toList ++ st) r.2.1 r.2.2.1 r.2.2.2 Q) := T_cI [.int x1] rfl rfl rfl rfl
/-! CartoonHouseModel.isLayer(I)Z -/
theorem k264_0 : a_bl 264 0 = [o_il 0, o_I (J 0), o_I (J 3), o_call 219, o_ret 1] := rfl
theorem k264_r : a_rt 264 = (some .boolean) := rfl
theorem k264_s {E : AEn} {hi : AHi} {hr : AHr} {n : Nat} {Q : ARs → Prop} (x0 : Int32) : Sp E 264 [.int x0] hi hr n Q ↔ Tm E 264 (a_bl 264 0) [.int x0] [] hi hr n Q := Iff.rfl
theorem K264 : (type_of% k264_0) ∧ (type_of% k264_r) ∧ (type_of% @k264_s) := ⟨k264_0, k264_r, @k264_s⟩
theorem c264 {m : Nat} {is : List AOp} {ls st : List Value} {E : AEn} {hi : AHi} {hr : AHr} {n : Nat} {Q : ARs → Prop} (x0 : Int32) : Tm E m (o_call 264 :: is) ls (.int x0 :: st) hi hr n Q ↔ st.length ≤ 4 ∧ Sp E 264 [.int x0] hi hr n (fun r => Tm E m is ls (r.1.toList ++ st) r.2.1 r.2.2.1 r.2.2.2 Q) := T_cS [.int x0] rfl rfl
/-! CartoonHouseModel.isNext(I)Z -/
theorem k265_0 : a_bl 265 0 = [o_al 0, o_call 221, o_if 0 1, o_al 0, o_call 222, o_il 1, o_ic 1 1, o_I (J 1), o_goto 2] := rfl
theorem k265_1 : a_bl 265 1 = [o_I (J 0), o_ft 2] := rfl
theorem k265_2 : a_bl 265 2 = [o_ret 1] := rfl
theorem k265_r : a_rt 265 = (some .boolean) := rfl
theorem k265_s {E : AEn} {hi : AHi} {hr : AHr} {n : Nat} {Q : ARs → Prop} (x0 : Nat) (x1 : Int32) : Sp E 265 [.ref x0, .int x1] hi hr n Q ↔ Tm E 265 (a_bl 265 0) [.ref x0, .int x1] [] hi hr n Q := Iff.rfl
theorem K265 : (type_of% k265_0) ∧ (type_of% k265_1) ∧ (type_of% k265_2) ∧ (type_of% k265_r) ∧ (type_of% @k265_s) := ⟨k265_0, k265_1, k265_2, k265_r, @k265_s⟩
theorem c265 {m : Nat} {is : List AOp} {ls st : List Value} {E : AEn} {hi : AHi} {hr : AHr} {n : Nat} {Q : ARs → Prop} (x0 : Nat) (x1 : Int32) : Tm E m (o_call 265 :: is) ls (.int x1 :: .ref x0 :: st) hi hr n Q ↔ (a_kd x0 = 11 ∧ x0 < n ∧ st.length ≤ 4) ∧ Sp E 265 [.ref x0, .int x1] hi hr n (fun r => Tm E m is ls (r.1.toList ++ st) r.2.1 r.2.2.1 r.2.2.2 Q) := T_cI [.int x1] rfl rfl rfl rfl
/-! CartoonHouseModel.bracket()V -/
theorem k266_0 : a_bl 266 0 = [o_al 0, o_getI 11 4, o_is 1, o_al 0, o_getI 11 42, o_is 2, o_al 0, o_I (J 40), o_call 225, o_al 0, o_call 267, o_ft 1] := rfl
theorem k266_1 : a_bl 266 1 = [o_al 0, o_I (J 32), o_call 265, o_if 0 2, o_al 0, o_dup, o_getI 11 4, o_I (J 1), o_bin 0, o_putI 11 4, o_al 0, o_call 267, o_goto 1] := rfl
theorem k266_2 : a_bl 266 2 = [o_al 0, o_I (J 41), o_call 225, o_al 0, o_I (J 42), o_call 225, o_al 0, o_I (J 0), o_I (J 1), o_I (J 20), o_call 220, o_is 3, o_al 0, o_getI 11 42, o_il 2, o_bin 1, o_is 4, o_al 0, o_call 221, o_if 0 3, o_il 2, o_il 3, o_il 4, o_bin 2, o_bin 0, o_I (J 120), o_ic 5 3, o_al 0, o_il 1, o_call 224, o_ft 3] := rfl
theorem k266_3 : a_bl 266 3 = [o_il 4, o_is 5, o_ft 4] := rfl
theorem k266_4 : a_bl 266 4 = [o_il 5, o_il 3, o_il 4, o_bin 2, o_ic 3 5, o_al 0, o_call 221, o_if 0 5, o_al 0, o_getR 11 41, o_al 0, o_getI 11 42, o_al 0, o_getR 11 41, o_il 2, o_il 5, o_il 4, o_bin 10, o_bin 0, o_iald, o_iast, o_al 0, o_dup, o_getI 11 42, o_I (J 1), o_bin 0, o_putI 11 42, o_iinc 5 (J 1), o_goto 4] := rfl
theorem k266_5 : a_bl 266 5 = [o_ret 0] := rfl
theorem k266_r : a_rt 266 = none := rfl
theorem k266_s {E : AEn} {hi : AHi} {hr : AHr} {n : Nat} {Q : ARs → Prop} (x0 : Nat) : Sp E 266 [.ref x0] hi hr n Q ↔ Tm E 266 (a_bl 266 0) [.ref x0, a_mk, a_mk, a_mk, a_mk, a_mk] [] hi hr n Q := Iff.rfl
theorem K266 : (type_of% k266_0) ∧ (type_of% k266_2) ∧ (type_of% k266_3) ∧ (type_of% k266_5) ∧ (type_of% k266_r) ∧ (type_of% @k266_s) := ⟨k266_0, k266_2, k266_3, k266_5, k266_r, @k266_s⟩
theorem c266 {m : Nat} {is : List AOp} {ls st : List Value} {E : AEn} {hi : AHi} {hr : AHr} {n : Nat} {Q : ARs → Prop} (x0 : Nat) : Tm E m (o_call 266 :: is) ls (.ref x0 :: st) hi hr n Q ↔ (a_kd x0 = 11 ∧ x0 < n ∧ st.length ≤ 4) ∧ Sp E 266 [.ref x0] hi hr n (fun r => Tm E m is ls (r.1.toList ++ st) r.2.1 r.2.2.1 r.2.2.2 Q) := T_cI [] rfl rfl rfl rfl
/-! CartoonHouseModel.item()V -/
theorem k267_0 : a_bl 267 0 = [o_al 0, o_call 221, o_if 1 1, o_ret 0] := rfl
theorem k267_1 : a_bl 267 1 = [o_al 0, o_getI 11 4, o_is 1, o_I (J (-1)), o_is 2, o_al 0, o_call 222, o_I (J 45), o_ic 1 2, o_al 0, o_dup, o_getI 11 4, o_I (J 1), o_bin 0, o_putI 11 4, o_goto 3] := rfl
theorem k267_2 : a_bl 267 2 = [o_al 0, o_I (J 0), o_I (J 0), o_I (J 15), o_call 220, o_is 2, o_ft 3] := rfl
theorem k267_3 : a_bl 267 3 = [o_I (J 1), o_is 3, o_al 0, o_I (J 42), o_call 265, o_if 0 4, o_al 0, o_dup, o_getI 11 4, o_I (J 1), o_bin 0, o_putI 11 4, o_al 0, o_I (J 0), o_I (J 1), o_I (J 99), o_call 220, o_is 3, o_ft 4] := rfl
theorem k267_4 : a_bl 267 4 = [o_al 0, o_call 221, o_if 0 5, o_al 0, o_getI 11 42, o_il 3, o_bin 0, o_I (J 120), o_ic 5 5, o_al 0, o_il 1, o_call 224, o_ft 5] := rfl
theorem k267_5 : a_bl 267 5 = [o_I (J 0), o_is 4, o_ft 6] := rfl
theorem k267_6 : a_bl 267 6 = [o_il 4, o_il 3, o_ic 3 7, o_al 0, o_call 221, o_if 0 7, o_al 0, o_getR 11 41, o_al 0, o_getI 11 42, o_il 2, o_iast, o_al 0, o_dup, o_getI 11 42, o_I (J 1), o_bin 0, o_putI 11 42, o_iinc 4 (J 1), o_goto 6] := rfl
theorem k267_7 : a_bl 267 7 = [o_ret 0] := rfl
theorem k267_r : a_rt 267 = none := rfl
theorem k267_s {E : AEn} {hi : AHi} {hr : AHr} {n : Nat} {Q : ARs → Prop} (x0 : Nat) : Sp E 267 [.ref x0] hi hr n Q ↔ Tm E 267 (a_bl 267 0) [.ref x0, a_mk, a_mk, a_mk, a_mk] [] hi hr n Q := Iff.rfl
theorem K267 : (type_of% k267_0) ∧ (type_of% k267_1) ∧ (type_of% k267_2) ∧ (type_of% k267_3) ∧ (type_of% k267_4) ∧ (type_of% k267_5) ∧ (type_of% k267_7) ∧ (type_of% k267_r) ∧ (type_of% @k267_s) := ⟨k267_0, k267_1, k267_2, k267_3, k267_4, k267_5, k267_7, k267_r, @k267_s⟩
theorem c267 {m : Nat} {is : List AOp} {ls st : List Value} {E : AEn} {hi : AHi} {hr : AHr} {n : Nat} {Q : ARs → Prop} (x0 : Nat) : Tm E m (o_call 267 :: is) ls (.ref x0 :: st) hi hr n Q ↔ (a_kd x0 = 11 ∧ x0 < n ∧ st.length ≤ 4) ∧ Sp E 267 [.ref x0] hi hr n (fun r => Tm E m is ls (r.1.toList ++ st) r.2.1 r.2.2.1 r.2.2.2 Q) := T_cI [] rfl rfl rfl rfl
/-! CartoonHouseModel.shown(II)I -/
theorem k268_0 : a_bl 268 0 = [o_il 1, o_call 264, o_if 0 1, o_il 2, o_I (J 0), o_al 0, o_getR 11 40, o_il 1, o_iald, o_I (J 1), o_bin 1, o_call 219, o_if 1 2, o_ft 1] := rfl
theorem k268_1 : a_bl 268 1 = [o_I (J (-1)), o_ret 1] := rfl
theorem k268_2 : a_bl 268 2 = [o_al 0, o_getR 11 39, o_I (J 120), o_il 1, o_bin 2, o_il 2, o_bin 0, o_iald, o_ret 1] := rfl
theorem k268_r : a_rt 268 = (some .int) := rfl
theorem k268_s {E : AEn} {hi : AHi} {hr : AHr} {n : Nat} {Q : ARs → Prop} (x0 : Nat) (x1 : Int32) (x2 : Int32) : Sp E 268 [.ref x0, .int x1, .int x2] hi hr n Q ↔ Tm E 268 (a_bl 268 0) [.ref x0, .int x1, .int x2] [] hi hr n Q := Iff.rfl
theorem K268 : (type_of% k268_0) ∧ (type_of% k268_1) ∧ (type_of% k268_2) ∧ (type_of% k268_r) ∧ (type_of% @k268_s) := ⟨k268_0, k268_1, k268_2, k268_r, @k268_s⟩
theorem c268 {m : Nat} {is : List AOp} {ls st : List Value} {E : AEn} {hi : AHi} {hr : AHr} {n : Nat} {Q : ARs → Prop} (x0 : Nat) (x1 : Int32) (x2 : Int32) : Tm E m (o_call 268 :: is) ls (.int x2 :: .int x1 :: .ref x0 :: st) hi hr n Q ↔ (a_kd x0 = 11 ∧ x0 < n ∧ st.length ≤ 4) ∧ Sp E 268 [.ref x0, .int x1, .int x2] hi hr n (fun r => Tm E m is ls (r.1.toList ++ st) r.2.1 r.2.2.1 r.2.2.2 Q) := T_cI [.int x1, .int x2] rfl rfl rfl rfl
/-! CartoonHouseModel.stretch(III)I -/
theorem k269_0 : a_bl 269 0 = [o_il 1, o_call 264, o_if 0 1, o_il 2, o_I (J 1), o_I (J 20), o_call 219, o_if 0 1, o_il 3, o_I (J 1), o_I (J 20), o_call 219, o_if 1 2, o_ft 1] := rfl
theorem k269_1 : a_bl 269 1 = [o_I (J (-1)), o_ret 1] := rfl
theorem k269_2 : a_bl 269 2 = [o_al 0, o_getR 11 40, o_il 1, o_iald, o_il 2, o_bin 2, o_il 3, o_bin 9, o_is 4, o_il 4, o_I (J 120), o_ic 5 3, o_I (J (-4)), o_ret 1] := rfl
theorem k269_3 : a_bl 269 3 = [o_I (J 0), o_is 5, o_ft 4] := rfl
theorem k269_4 : a_bl 269 4 = [o_il 5, o_il 4, o_ic 3 5, o_al 0, o_getR 11 41, o_il 5, o_al 0, o_getR 11 39, o_I (J 120), o_il 1, o_bin 2, o_il 5, o_il 3, o_bin 2, o_il 2, o_bin 9, o_bin 0, o_iald, o_iast, o_iinc 5 (J 1), o_goto 4] := rfl
theorem k269_5 : a_bl 269 5 = [o_I (J 0), o_is 5, o_ft 6] := rfl
theorem k269_6 : a_bl 269 6 = [o_il 5, o_il 4, o_ic 3 7, o_al 0, o_getR 11 39, o_I (J 120), o_il 1, o_bin 2, o_il 5, o_bin 0, o_al 0, o_getR 11 41, o_il 5, o_iald, o_iast, o_iinc 5 (J 1), o_goto 6] := rfl
theorem k269_7 : a_bl 269 7 = [o_al 0, o_getR 11 40, o_il 1, o_il 4, o_iast, o_il 4, o_ret 1] := rfl
theorem k269_r : a_rt 269 = (some .int) := rfl
theorem k269_s {E : AEn} {hi : AHi} {hr : AHr} {n : Nat} {Q : ARs → Prop} (x0 : Nat) (x1 : Int32) (x2 : Int32) (x3 : Int32) : Sp E 269 [.ref x0, .int x1, .int x2, .int x3] hi hr n Q ↔ Tm E 269 (a_bl 269 0) [.ref x0, .int x1, .int x2, .int x3, a_mk, a_mk] [] hi hr n Q := Iff.rfl
theorem K269 : (type_of% k269_0) ∧ (type_of% k269_1) ∧ (type_of% k269_2) ∧ (type_of% k269_3) ∧ (type_of% k269_5) ∧ (type_of% k269_7) ∧ (type_of% k269_r) ∧ (type_of% @k269_s) := ⟨k269_0, k269_1, k269_2, k269_3, k269_5, k269_7, k269_r, @k269_s⟩
theorem c269 {m : Nat} {is : List AOp} {ls st : List Value} {E : AEn} {hi : AHi} {hr : AHr} {n : Nat} {Q : ARs → Prop} (x0 : Nat) (x1 : Int32) (x2 : Int32) (x3 : Int32) : Tm E m (o_call 269 :: is) ls (.int x3 :: .int x2 :: .int x1 :: .ref x0 :: st) hi hr n Q ↔ (a_kd x0 = 11 ∧ x0 < n ∧ st.length ≤ 4) ∧ Sp E 269 [.ref x0, .int x1, .int x2, .int x3] hi hr n (fun r => Tm E m is ls (r.1.toList ++ st) r.2.1 r.2.2.1 r.2.2.2 Q) := T_cI [.int x1, .int x2, .int x3] rfl rfl rfl rfl
/-! CartoonHouseModel.told(I)I -/
theorem k270_0 : a_bl 270 0 = [o_il 1, o_call 264, o_if 1 1, o_I (J (-1)), o_ret 1] := rfl
theorem k270_1 : a_bl 270 1 = [o_al 0, o_I (J 0), o_putI 11 7, o_I (J 0), o_is 2, o_ft 2] := rfl
theorem k270_2 : a_bl 270 2 = [o_il 2, o_al 0, o_getR 11 40, o_il 1, o_iald, o_ic 3 9, o_al 0, o_getR 11 39, o_I (J 120), o_il 1, o_bin 2, o_il 2, o_bin 0, o_iald, o_is 3, o_I (J 1), o_is 4, o_ft 3] := rfl
theorem k270_3 : a_bl 270 3 = [o_il 4, o_I (J 99), o_ic 3 4, o_il 2, o_il 4, o_bin 0, o_al 0, o_getR 11 40, o_il 1, o_iald, o_ic 3 4, o_al 0, o_getR 11 39, o_I (J 120), o_il 1, o_bin 2, o_il 2, o_bin 0, o_il 4, o_bin 0, o_iald, o_il 3, o_ic 1 4, o_iinc 4 (J 1), o_goto 3] := rfl
theorem k270_4 : a_bl 270 4 = [o_il 2, o_if 5 5, o_al 0, o_I (J 32), o_call 233, o_ft 5] := rfl
theorem k270_5 : a_bl 270 5 = [o_il 3, o_if 3 6, o_al 0, o_I (J 45), o_call 233, o_goto 7] := rfl
theorem k270_6 : a_bl 270 6 = [o_al 0, o_il 3, o_call 232, o_ft 7] := rfl
theorem k270_7 : a_bl 270 7 = [o_il 4, o_I (J 1), o_ic 5 8, o_al 0, o_I (J 42), o_call 233, o_al 0, o_il 4, o_call 232, o_ft 8] := rfl
theorem k270_8 : a_bl 270 8 = [o_il 2, o_il 4, o_bin 0, o_is 2, o_goto 2] := rfl
theorem k270_9 : a_bl 270 9 = [o_al 0, o_getI 11 7, o_ret 1] := rfl
theorem k270_r : a_rt 270 = (some .int) := rfl
theorem k270_s {E : AEn} {hi : AHi} {hr : AHr} {n : Nat} {Q : ARs → Prop} (x0 : Nat) (x1 : Int32) : Sp E 270 [.ref x0, .int x1] hi hr n Q ↔ Tm E 270 (a_bl 270 0) [.ref x0, .int x1, a_mk, a_mk, a_mk] [] hi hr n Q := Iff.rfl
theorem K270 : (type_of% k270_0) ∧ (type_of% k270_1) ∧ (type_of% k270_4) ∧ (type_of% k270_5) ∧ (type_of% k270_6) ∧ (type_of% k270_7) ∧ (type_of% k270_8) ∧ (type_of% k270_9) ∧ (type_of% k270_r) ∧ (type_of% @k270_s) := ⟨k270_0, k270_1, k270_4, k270_5, k270_6, k270_7, k270_8, k270_9, k270_r, @k270_s⟩
theorem c270 {m : Nat} {is : List AOp} {ls st : List Value} {E : AEn} {hi : AHi} {hr : AHr} {n : Nat} {Q : ARs → Prop} (x0 : Nat) (x1 : Int32) : Tm E m (o_call 270 :: is) ls (.int x1 :: .ref x0 :: st) hi hr n Q ↔ (a_kd x0 = 11 ∧ x0 < n ∧ st.length ≤ 4) ∧ Sp E 270 [.ref x0, .int x1] hi hr n (fun r => Tm E m is ls (r.1.toList ++ st) r.2.1 r.2.2.1 r.2.2.2 Q) := T_cI [.int x1] rfl rfl rfl rfl
/-! CartoonHouseModel.mark(II)I -/
theorem k271_0 : a_bl 271 0 = [o_il 1, o_I (J 0), o_I (J 7), o_call 219, o_if 0 1, o_il 2, o_I (J 0), o_I (J 7), o_call 219, o_if 1 2, o_ft 1] := rfl
theorem k271_1 : a_bl 271 1 = [o_I (J (-1)), o_ret 1] := rfl
theorem k271_2 : a_bl 271 2 = [o_I (J 0), o_is 3, o_ft 3] := rfl
theorem k271_3 : a_bl 271 3 = [o_il 3, o_al 0, o_getI 11 45, o_ic 3 6, o_al 0, o_getR 11 43, o_il 3, o_iald, o_il 1, o_ic 0 4, o_al 0, o_getR 11 44, o_il 3, o_iald, o_il 2, o_ic 1 5, o_ft 4] := rfl
theorem k271_4 : a_bl 271 4 = [o_I (J (-3)), o_ret 1] := rfl
theorem k271_5 : a_bl 271 5 = [o_iinc 3 (J 1), o_goto 3] := rfl
theorem k271_6 : a_bl 271 6 = [o_al 0, o_getI 11 45, o_I (J 4), o_ic 1 7, o_I (J (-4)), o_ret 1] := rfl
theorem k271_7 : a_bl 271 7 = [o_al 0, o_getR 11 43, o_al 0, o_getI 11 45, o_il 1, o_iast, o_al 0, o_getR 11 44, o_al 0, o_getI 11 45, o_il 2, o_iast, o_al 0, o_dup, o_getI 11 45, o_I (J 1), o_bin 0, o_putI 11 45, o_al 0, o_getI 11 45, o_ret 1] := rfl
theorem k271_r : a_rt 271 = (some .int) := rfl
theorem k271_s {E : AEn} {hi : AHi} {hr : AHr} {n : Nat} {Q : ARs → Prop} (x0 : Nat) (x1 : Int32) (x2 : Int32) : Sp E 271 [.ref x0, .int x1, .int x2] hi hr n Q ↔ Tm E 271 (a_bl 271 0) [.ref x0, .int x1, .int x2, a_mk] [] hi hr n Q := Iff.rfl
theorem K271 : (type_of% k271_0) ∧ (type_of% k271_1) ∧ (type_of% k271_2) ∧ (type_of% k271_4) ∧ (type_of% k271_5) ∧ (type_of% k271_6) ∧ (type_of% k271_7) ∧ (type_of% k271_r) ∧ (type_of% @k271_s) := ⟨k271_0, k271_1, k271_2, k271_4, k271_5, k271_6, k271_7, k271_r, @k271_s⟩
theorem c271 {m : Nat} {is : List AOp} {ls st : List Value} {E : AEn} {hi : AHi} {hr : AHr} {n : Nat} {Q : ARs → Prop} (x0 : Nat) (x1 : Int32) (x2 : Int32) : Tm E m (o_call 271 :: is) ls (.int x2 :: .int x1 :: .ref x0 :: st) hi hr n Q ↔ (a_kd x0 = 11 ∧ x0 < n ∧ st.length ≤ 4) ∧ Sp E 271 [.ref x0, .int x1, .int x2] hi hr n (fun r => Tm E m is ls (r.1.toList ++ st) r.2.1 r.2.2.1 r.2.2.2 Q) := T_cI [.int x1, .int x2] rfl rfl rfl rfl
/-! CartoonHouseModel.unmark()I -/
theorem k272_0 : a_bl 272 0 = [o_al 0, o_getI 11 45, o_is 1, o_al 0, o_I (J 0), o_putI 11 45, o_il 1, o_ret 1] := rfl
theorem k272_r : a_rt 272 = (some .int) := rfl
theorem k272_s {E : AEn} {hi : AHi} {hr : AHr} {n : Nat} {Q : ARs → Prop} (x0 : Nat) : Sp E 272 [.ref x0] hi hr n Q ↔ Tm E 272 (a_bl 272 0) [.ref x0, a_mk] [] hi hr n Q := Iff.rfl
theorem K272 : (type_of% k272_0) ∧ (type_of% k272_r) ∧ (type_of% @k272_s) := ⟨k272_0, k272_r, @k272_s⟩
theorem c272 {m : Nat} {is : List AOp} {ls st : List Value} {E : AEn} {hi : AHi} {hr : AHr} {n : Nat} {Q : ARs → Prop} (x0 : Nat) : Tm E m (o_call 272 :: is) ls (.ref x0 :: st) hi hr n Q ↔ (a_kd x0 = 11 ∧ x0 < n ∧ st.length ≤ 4) ∧ Sp E 272 [.ref x0] hi hr n (fun r => Tm E m is ls (r.1.toList ++ st) r.2.1 r.2.2.1 r.2.2.2 Q) := T_cI [] rfl rfl rfl rfl
/-! CartoonHouseModel.match(II)I -/
theorem k273_0 : a_bl 273 0 = [o_il 1, o_call 218, o_if 0 1, o_il 2, o_call 218, o_if 1 2, o_ft 1] := rfl
theorem k273_1 : a_bl 273 1 = [o_I (J (-1)), o_ret 1] := rfl
theorem k273_2 : a_bl 273 2 = [o_al 0, o_il 1, o_il 2, o_call 274, o_is 3, o_al 0, o_al 0, o_getR 11 8, o_il 1, o_iald, o_putI 11 49, o_I (J 0), o_is 4, o_ft 3] := rfl
theorem k273_3 : a_bl 273 3 = [o_il 4, o_al 0, o_getI 11 49, o_ic 3 4, o_al 0, o_getR 11 47, o_il 4, o_al 0, o_getR 11 48, o_il 4, o_iald, o_iast, o_iinc 4 (J 1), o_goto 3] := rfl
theorem k273_4 : a_bl 273 4 = [o_il 3, o_ret 1] := rfl
theorem k273_r : a_rt 273 = (some .int) := rfl
theorem k273_s {E : AEn} {hi : AHi} {hr : AHr} {n : Nat} {Q : ARs → Prop} (x0 : Nat) (x1 : Int32) (x2 : Int32) : Sp E 273 [.ref x0, .int x1, .int x2] hi hr n Q ↔ Tm E 273 (a_bl 273 0) [.ref x0, .int x1, .int x2, a_mk, a_mk] [] hi hr n Q := Iff.rfl
theorem K273 : (type_of% k273_0) ∧ (type_of% k273_1) ∧ (type_of% k273_2) ∧ (type_of% k273_4) ∧ (type_of% k273_r) ∧ (type_of% @k273_s) := ⟨k273_0, k273_1, k273_2, k273_4, k273_r, @k273_s⟩
theorem c273 {m : Nat} {is : List AOp} {ls st : List Value} {E : AEn} {hi : AHi} {hr : AHr} {n : Nat} {Q : ARs → Prop} (x0 : Nat) (x1 : Int32) (x2 : Int32) : Tm E m (o_call 273 :: is) ls (.int x2 :: .int x1 :: .ref x0 :: st) hi hr n Q ↔ (a_kd x0 = 11 ∧ x0 < n ∧ st.length ≤ 4) ∧ Sp E 273 [.ref x0, .int x1, .int x2] hi hr n (fun r => Tm E m is ls (r.1.toList ++ st) r.2.1 r.2.2.1 r.2.2.2 Q) := T_cI [.int x1, .int x2] rfl rfl rfl rfl
/-! CartoonHouseModel.best(II)I -/
theorem k274_0 : a_bl 274 0 = [o_al 0, o_getR 11 8, o_il 1, o_iald, o_is 3, o_I (J 0), o_is 4, o_ft 1] := rfl
theorem k274_1 : a_bl 274 1 = [o_il 4, o_I (J 256), o_ic 3 6, o_I (J 0), o_is 5, o_I (J 0), o_is 6, o_ft 2] := rfl
theorem k274_2 : a_bl 274 2 = [o_il 6, o_al 0, o_getR 11 8, o_il 2, o_iald, o_ic 3 5, o_il 5, o_il 4, o_il 6, o_bin 7, o_I (J 1), o_bin 3, o_if 1 3, o_I (J 1), o_goto 4] := rfl
theorem k274_3 : a_bl 274 3 = [o_I (J 0), o_ft 4] := rfl
theorem k274_4 : a_bl 274 4 = [o_bin 0, o_is 5, o_iinc 6 (J 1), o_goto 2] := rfl
theorem k274_5 : a_bl 274 5 = [o_al 0, o_getR 11 46, o_I (J 256), o_il 3, o_bin 2, o_il 4, o_bin 0, o_I (J 400), o_il 5, o_bin 2, o_iast, o_iinc 4 (J 1), o_goto 1] := rfl
theorem k274_6 : a_bl 274 6 = [o_il 3, o_I (J 1), o_bin 1, o_is 4, o_ft 7] := rfl
theorem k274_7 : a_bl 274 7 = [o_il 4, o_if 2 16, o_I (J 0), o_is 5, o_ft 8] := rfl
theorem k274_8 : a_bl 274 8 = [o_il 5, o_I (J 256), o_ic 3 15, o_I (J 1000000), o_is 6, o_I (J 0), o_is 7, o_ft 9] := rfl
theorem k274_9 : a_bl 274 9 = [o_il 7, o_I (J 9), o_ic 3 14, o_al 0, o_il 2, o_il 7, o_il 5, o_call 275, o_if 0 13, o_al 0, o_il 1, o_il 2, o_il 4, o_il 7, o_call 276, o_if 1 10, o_goto 13] := rfl
theorem k274_10 : a_bl 274 10 = [o_al 0, o_il 1, o_il 2, o_il 4, o_il 7, o_il 5, o_call 277, o_is 8, o_il 8, o_il 6, o_ic 3 11, o_il 8, o_goto 12] := rfl
theorem k274_11 : a_bl 274 11 = [o_il 6, o_ft 12] := rfl
theorem k274_12 : a_bl 274 12 = [o_is 6, o_ft 13] := rfl
theorem k274_13 : a_bl 274 13 = [o_iinc 7 (J 1), o_goto 9] := rfl
theorem k274_14 : a_bl 274 14 = [o_al 0, o_getR 11 46, o_I (J 256), o_il 4, o_bin 2, o_il 5, o_bin 0, o_il 6, o_iast, o_iinc 5 (J 1), o_goto 8] := rfl
theorem k274_15 : a_bl 274 15 = [o_iinc 4 (J (-1)), o_goto 7] := rfl
theorem k274_16 : a_bl 274 16 = [o_I (J 0), o_is 4, o_I (J 0), o_is 5, o_ft 17] := rfl
theorem k274_17 : a_bl 274 17 = [o_il 5, o_il 3, o_ic 3 25, o_I (J (-1)), o_is 6, o_I (J 8), o_is 7, o_ft 18] := rfl
theorem k274_18 : a_bl 274 18 = [o_il 7, o_if 2 22, o_al 0, o_il 2, o_il 7, o_il 4, o_call 275, o_if 0 19, o_al 0, o_il 1, o_il 2, o_il 5, o_il 7, o_call 276, o_if 0 19, o_I (J 1), o_goto 20] := rfl
theorem k274_19 : a_bl 274 19 = [o_I (J 0), o_ft 20] := rfl
theorem k274_20 : a_bl 274 20 = [o_is 8, o_il 8, o_if 0 21, o_al 0, o_il 1, o_il 2, o_il 5, o_il 7, o_il 4, o_call 277, o_al 0, o_getR 11 46, o_I (J 256), o_il 5, o_bin 2, o_il 4, o_bin 0, o_iald, o_ic 1 21, o_il 7, o_is 6, o_ft 21] := rfl
theorem k274_21 : a_bl 274 21 = [o_iinc 7 (J (-1)), o_goto 18] := rfl
theorem k274_22 : a_bl 274 22 = [o_al 0, o_getR 11 48, o_il 5, o_il 6, o_iast, o_il 6, o_I (J 8), o_ic 3 23, o_il 4, o_I (J 1), o_il 6, o_bin 6, o_bin 4, o_goto 24] := rfl
theorem k274_23 : a_bl 274 23 = [o_il 4, o_ft 24] := rfl
theorem k274_24 : a_bl 274 24 = [o_is 4, o_iinc 5 (J 1), o_goto 17] := rfl
theorem k274_25 : a_bl 274 25 = [o_al 0, o_getR 11 46, o_I (J 0), o_iald, o_ret 1] := rfl
theorem k274_r : a_rt 274 = (some .int) := rfl
theorem k274_s {E : AEn} {hi : AHi} {hr : AHr} {n : Nat} {Q : ARs → Prop} (x0 : Nat) (x1 : Int32) (x2 : Int32) : Sp E 274 [.ref x0, .int x1, .int x2] hi hr n Q ↔ Tm E 274 (a_bl 274 0) [.ref x0, .int x1, .int x2, a_mk, a_mk, a_mk, a_mk, a_mk, a_mk] [] hi hr n Q := Iff.rfl
theorem K274 : (type_of% k274_0) ∧ (type_of% k274_3) ∧ (type_of% k274_4) ∧ (type_of% k274_5) ∧ (type_of% k274_6) ∧ (type_of% k274_10) ∧ (type_of% k274_11) ∧ (type_of% k274_12) ∧ (type_of% k274_13) ∧ (type_of% k274_14) ∧ (type_of% k274_15) ∧ (type_of% k274_16) ∧ (type_of% k274_19) ∧ (type_of% k274_20) ∧ (type_of% k274_21) ∧ (type_of% k274_22) ∧ (type_of% k274_23) ∧ (type_of% k274_24) ∧ (type_of% k274_25) ∧ (type_of% k274_r) ∧ (type_of% @k274_s) := ⟨k274_0, k274_3, k274_4, k274_5, k274_6, k274_10, k274_11, k274_12, k274_13, k274_14, k274_15, k274_16, k274_19, k274_20, k274_21, k274_22, k274_23, k274_24, k274_25, k274_r, @k274_s⟩
theorem c274 {m : Nat} {is : List AOp} {ls st : List Value} {E : AEn} {hi : AHi} {hr : AHr} {n : Nat} {Q : ARs → Prop} (x0 : Nat) (x1 : Int32) (x2 : Int32) : Tm E m (o_call 274 :: is) ls (.int x2 :: .int x1 :: .ref x0 :: st) hi hr n Q ↔ (a_kd x0 = 11 ∧ x0 < n ∧ st.length ≤ 4) ∧ Sp E 274 [.ref x0, .int x1, .int x2] hi hr n (fun r => Tm E m is ls (r.1.toList ++ st) r.2.1 r.2.2.1 r.2.2.2 Q) := T_cI [.int x1, .int x2] rfl rfl rfl rfl
/-! CartoonHouseModel.isFree(III)Z -/
theorem k275_0 : a_bl 275 0 = [o_il 2, o_I (J 8), o_ic 0 1, o_il 2, o_al 0, o_getR 11 8, o_il 1, o_iald, o_ic 3 2, o_il 3, o_il 2, o_bin 7, o_I (J 1), o_bin 3, o_if 1 2, o_ft 1] := rfl
theorem k275_1 : a_bl 275 1 = [o_I (J 1), o_goto 3] := rfl
theorem k275_2 : a_bl 275 2 = [o_I (J 0), o_ft 3] := rfl
theorem k275_3 : a_bl 275 3 = [o_ret 1] := rfl
theorem k275_r : a_rt 275 = (some .boolean) := rfl
theorem k275_s {E : AEn} {hi : AHi} {hr : AHr} {n : Nat} {Q : ARs → Prop} (x0 : Nat) (x1 : Int32) (x2 : Int32) (x3 : Int32) : Sp E 275 [.ref x0, .int x1, .int x2, .int x3] hi hr n Q ↔ Tm E 275 (a_bl 275 0) [.ref x0, .int x1, .int x2, .int x3] [] hi hr n Q := Iff.rfl
theorem K275 : (type_of% k275_0) ∧ (type_of% k275_1) ∧ (type_of% k275_2) ∧ (type_of% k275_3) ∧ (type_of% k275_r) ∧ (type_of% @k275_s) := ⟨k275_0, k275_1, k275_2, k275_3, k275_r, @k275_s⟩
theorem c275 {m : Nat} {is : List AOp} {ls st : List Value} {E : AEn} {hi : AHi} {hr : AHr} {n : Nat} {Q : ARs → Prop} (x0 : Nat) (x1 : Int32) (x2 : Int32) (x3 : Int32) : Tm E m (o_call 275 :: is) ls (.int x3 :: .int x2 :: .int x1 :: .ref x0 :: st) hi hr n Q ↔ (a_kd x0 = 11 ∧ x0 < n ∧ st.length ≤ 4) ∧ Sp E 275 [.ref x0, .int x1, .int x2, .int x3] hi hr n (fun r => Tm E m is ls (r.1.toList ++ st) r.2.1 r.2.2.1 r.2.2.2 Q) := T_cI [.int x1, .int x2, .int x3] rfl rfl rfl rfl
/-! CartoonHouseModel.mayPair(IIII)Z -/
theorem k276_0 : a_bl 276 0 = [o_I (J 1), o_is 5, o_I (J 0), o_is 6, o_ft 1] := rfl
theorem k276_1 : a_bl 276 1 = [o_il 6, o_al 0, o_getI 11 45, o_ic 3 10, o_al 0, o_getR 11 43, o_il 6, o_iald, o_al 0, o_getR 11 8, o_il 1, o_iald, o_ic 3 9, o_al 0, o_getR 11 44, o_il 6, o_iald, o_al 0, o_getR 11 8, o_il 2, o_iald, o_ic 2 2, o_goto 9] := rfl
theorem k276_2 : a_bl 276 2 = [o_il 5, o_if 0 7, o_al 0, o_getR 11 43, o_il 6, o_iald, o_il 3, o_ic 1 3, o_I (J 1), o_goto 4] := rfl
theorem k276_3 : a_bl 276 3 = [o_I (J 0), o_ft 4] := rfl
theorem k276_4 : a_bl 276 4 = [o_al 0, o_getR 11 44, o_il 6, o_iald, o_il 4, o_ic 1 5, o_I (J 1), o_goto 6] := rfl
theorem k276_5 : a_bl 276 5 = [o_I (J 0), o_ft 6] := rfl
theorem k276_6 : a_bl 276 6 = [o_ic 1 7, o_I (J 1), o_goto 8] := rfl
theorem k276_7 : a_bl 276 7 = [o_I (J 0), o_ft 8] := rfl
theorem k276_8 : a_bl 276 8 = [o_is 5, o_ft 9] := rfl
theorem k276_9 : a_bl 276 9 = [o_iinc 6 (J 1), o_goto 1] := rfl
theorem k276_10 : a_bl 276 10 = [o_il 5, o_ret 1] := rfl
theorem k276_r : a_rt 276 = (some .boolean) := rfl
theorem k276_s {E : AEn} {hi : AHi} {hr : AHr} {n : Nat} {Q : ARs → Prop} (x0 : Nat) (x1 : Int32) (x2 : Int32) (x3 : Int32) (x4 : Int32) : Sp E 276 [.ref x0, .int x1, .int x2, .int x3, .int x4] hi hr n Q ↔ Tm E 276 (a_bl 276 0) [.ref x0, .int x1, .int x2, .int x3, .int x4, a_mk, a_mk] [] hi hr n Q := Iff.rfl
theorem K276 : (type_of% k276_0) ∧ (type_of% k276_2) ∧ (type_of% k276_3) ∧ (type_of% k276_4) ∧ (type_of% k276_5) ∧ (type_of% k276_6) ∧ (type_of% k276_7) ∧ (type_of% k276_8) ∧ (type_of% k276_9) ∧ (type_of% k276_10) ∧ (type_of% k276_r) ∧ (type_of% @k276_s) := ⟨k276_0, k276_2, k276_3, k276_4, k276_5, k276_6, k276_7, k276_8, k276_9, k276_10, k276_r, @k276_s⟩
theorem c276 {m : Nat} {is : List AOp} {ls st : List Value} {E : AEn} {hi : AHi} {hr : AHr} {n : Nat} {Q : ARs → Prop} (x0 : Nat) (x1 : Int32) (x2 : Int32) (x3 : Int32) (x4 : Int32) : Tm E m (o_call 276 :: is) ls (.int x4 :: .int x3 :: .int x2 :: .int x1 :: .ref x0 :: st) hi hr n Q ↔ (a_kd x0 = 11 ∧ x0 < n ∧ st.length ≤ 4) ∧ Sp E 276 [.ref x0, .int x1, .int x2, .int x3, .int x4] hi hr n (fun r => Tm E m is ls (r.1.toList ++ st) r.2.1 r.2.2.1 r.2.2.2 Q) := T_cI [.int x1, .int x2, .int x3, .int x4] rfl rfl rfl rfl
/-! CartoonHouseModel.withPair(IIIII)I -/
theorem k277_0 : a_bl 277 0 = [o_il 4, o_I (J 8), o_ic 1 1, o_I (J 400), o_al 0, o_getR 11 46, o_I (J 256), o_il 3, o_I (J 1), o_bin 0, o_bin 2, o_il 5, o_bin 0, o_iald, o_bin 0, o_goto 2] := rfl
theorem k277_1 : a_bl 277 1 = [o_al 0, o_I (J 8), o_il 1, o_bin 2, o_il 3, o_bin 0, o_I (J 8), o_il 2, o_bin 2, o_il 4, o_bin 0, o_call 278, o_al 0, o_getR 11 46, o_I (J 256), o_il 3, o_I (J 1), o_bin 0, o_bin 2, o_il 5, o_I (J 1), o_il 4, o_bin 6, o_bin 4, o_bin 0, o_iald, o_bin 0, o_ft 2] := rfl
theorem k277_2 : a_bl 277 2 = [o_ret 1] := rfl
theorem k277_r : a_rt 277 = (some .int) := rfl
theorem k277_s {E : AEn} {hi : AHi} {hr : AHr} {n : Nat} {Q : ARs → Prop} (x0 : Nat) (x1 : Int32) (x2 : Int32) (x3 : Int32) (x4 : Int32) (x5 : Int32) : Sp E 277 [.ref x0, .int x1, .int x2, .int x3, .int x4, .int x5] hi hr n Q ↔ Tm E 277 (a_bl 277 0) [.ref x0, .int x1, .int x2, .int x3, .int x4, .int x5] [] hi hr n Q := Iff.rfl
theorem K277 : (type_of% k277_0) ∧ (type_of% k277_1) ∧ (type_of% k277_2) ∧ (type_of% k277_r) ∧ (type_of% @k277_s) := ⟨k277_0, k277_1, k277_2, k277_r, @k277_s⟩
theorem c277 {m : Nat} {is : List AOp} {ls st : List Value} {E : AEn} {hi : AHi} {hr : AHr} {n : Nat} {Q : ARs → Prop} (x0 : Nat) (x1 : Int32) (x2 : Int32) (x3 : Int32) (x4 : Int32) (x5 : Int32) : Tm E m (o_call 277 :: is) ls (.int x5 :: .int x4 :: .int x3 :: .int x2 :: .int x1 :: .ref x0 :: st) hi hr n Q ↔ (a_kd x0 = 11 ∧ x0 < n ∧ st.length ≤ 4) ∧ Sp E 277 [.ref x0, .int x1, .int x2, .int x3, .int x4, .int x5] hi hr n (fun r => Tm E m is ls (r.1.toList ++ st) r.2.1 r.2.2.1 r.2.2.2 Q) := T_cI [.int x1, .int x2, .int x3, .int x4, .int x5] rfl rfl rfl rfl
/-! CartoonHouseModel.cost(II)I -/
theorem k278_0 : a_bl 278 0 = [o_al 0, o_getR 11 11, o_I (J 10), o_il 2, o_bin 2, o_iald, o_al 0, o_getR 11 11, o_I (J 10), o_il 1, o_bin 2, o_iald, o_bin 1, o_is 3, o_al 0, o_getR 11 12, o_I (J 10), o_il 2, o_bin 2, o_iald, o_al 0, o_getR 11 12, o_I (J 10), o_il 1, o_bin 2, o_iald, o_bin 1, o_is 4, o_I (J 10), o_il 1, o_bin 2, o_al 0, o_getR 11 10, o_il 1, o_iald, o_bin 0, o_I (J 1), o_bin 1, o_is 5, o_I (J 10), o_il 2, o_bin 2, o_al 0, o_getR 11 10, o_il 2, o_iald, o_bin 0, o_I (J 1), o_bin 1, o_is 6, o_al 0, o_getR 11 11, o_il 6, o_iald, o_al 0, o_getR 11 11, o_il 5, o_iald, o_bin 1, o_is 7, o_al 0, o_getR 11 12, o_il 6, o_iald, o_al 0, o_getR 11 12, o_il 5, o_iald, o_bin 1, o_is 8, o_il 3, o_il 3, o_bin 2, o_il 4, o_il 4, o_bin 2, o_bin 0, o_il 7, o_il 7, o_bin 2, o_bin 0, o_il 8, o_il 8, o_bin 2, o_bin 0, o_al 0, o_getR 11 9, o_il 1, o_iald, o_al 0, o_getR 11 9, o_il 2, o_iald, o_ic 1 1, o_I (J 0), o_goto 2] := rfl
theorem k278_1 : a_bl 278 1 = [o_I (J 100), o_ft 2] := rfl
theorem k278_2 : a_bl 278 2 = [o_bin 0, o_ret 1] := rfl
theorem k278_r : a_rt 278 = (some .int) := rfl
theorem k278_s {E : AEn} {hi : AHi} {hr : AHr} {n : Nat} {Q : ARs → Prop} (x0 : Nat) (x1 : Int32) (x2 : Int32) : Sp E 278 [.ref x0, .int x1, .int x2] hi hr n Q ↔ Tm E 278 (a_bl 278 0) [.ref x0, .int x1, .int x2, a_mk, a_mk, a_mk, a_mk, a_mk, a_mk] [] hi hr n Q := Iff.rfl
theorem K278 : (type_of% k278_0) ∧ (type_of% k278_1) ∧ (type_of% k278_2) ∧ (type_of% k278_r) ∧ (type_of% @k278_s) := ⟨k278_0, k278_1, k278_2, k278_r, @k278_s⟩
theorem c278 {m : Nat} {is : List AOp} {ls st : List Value} {E : AEn} {hi : AHi} {hr : AHr} {n : Nat} {Q : ARs → Prop} (x0 : Nat) (x1 : Int32) (x2 : Int32) : Tm E m (o_call 278 :: is) ls (.int x2 :: .int x1 :: .ref x0 :: st) hi hr n Q ↔ (a_kd x0 = 11 ∧ x0 < n ∧ st.length ≤ 4) ∧ Sp E 278 [.ref x0, .int x1, .int x2] hi hr n (fun r => Tm E m is ls (r.1.toList ++ st) r.2.1 r.2.2.1 r.2.2.2 Q) := T_cI [.int x1, .int x2] rfl rfl rfl rfl
/-! CartoonHouseModel.partner(I)I -/
theorem k279_0 : a_bl 279 0 = [o_il 1, o_I (J 0), o_al 0, o_getI 11 49, o_I (J 1), o_bin 1, o_call 219, o_if 0 1, o_al 0, o_getR 11 47, o_il 1, o_iald, o_I (J 8), o_ic 3 1, o_al 0, o_getR 11 47, o_il 1, o_iald, o_goto 2] := rfl
theorem k279_1 : a_bl 279 1 = [o_I (J (-1)), o_ft 2] := rfl
theorem k279_2 : a_bl 279 2 = [o_ret 1] := rfl
theorem k279_r : a_rt 279 = (some .int) := rfl
theorem k279_s {E : AEn} {hi : AHi} {hr : AHr} {n : Nat} {Q : ARs → Prop} (x0 : Nat) (x1 : Int32) : Sp E 279 [.ref x0, .int x1] hi hr n Q ↔ Tm E 279 (a_bl 279 0) [.ref x0, .int x1] [] hi hr n Q := Iff.rfl
theorem K279 : (type_of% k279_0) ∧ (type_of% k279_1) ∧ (type_of% k279_2) ∧ (type_of% k279_r) ∧ (type_of% @k279_s) := ⟨k279_0, k279_1, k279_2, k279_r, @k279_s⟩
theorem c279 {m : Nat} {is : List AOp} {ls st : List Value} {E : AEn} {hi : AHi} {hr : AHr} {n : Nat} {Q : ARs → Prop} (x0 : Nat) (x1 : Int32) : Tm E m (o_call 279 :: is) ls (.int x1 :: .ref x0 :: st) hi hr n Q ↔ (a_kd x0 = 11 ∧ x0 < n ∧ st.length ≤ 4) ∧ Sp E 279 [.ref x0, .int x1] hi hr n (fun r => Tm E m is ls (r.1.toList ++ st) r.2.1 r.2.2.1 r.2.2.2 Q) := T_cI [.int x1] rfl rfl rfl rfl
/-! CartoonHouseModel.tween(IIIII)I -/
theorem k280_0 : a_bl 280 0 = [o_il 1, o_call 218, o_if 0 1, o_il 2, o_call 218, o_if 0 1, o_il 4, o_I (J 1), o_I (J 24), o_call 219, o_if 0 1, o_il 3, o_I (J 0), o_il 4, o_call 219, o_if 0 1, o_il 5, o_call 218, o_if 0 1, o_il 5, o_il 1, o_ic 0 1, o_il 5, o_il 2, o_ic 1 2, o_ft 1] := rfl
theorem k280_1 : a_bl 280 1 = [o_I (J (-1)), o_ret 1] := rfl
theorem k280_2 : a_bl 280 2 = [o_I (J 2), o_il 3, o_bin 2, o_il 4, o_ic 3 3, o_I (J 1), o_goto 4] := rfl
theorem k280_3 : a_bl 280 3 = [o_I (J 0), o_ft 4] := rfl
theorem k280_4 : a_bl 280 4 = [o_is 6, o_I (J 0), o_is 7, o_al 0, o_il 1, o_il 2, o_call 274, o_is 8, o_il 3, o_if 0 5, o_il 3, o_il 4, o_ic 1 6, o_ft 5] := rfl
theorem k280_5 : a_bl 280 5 = [o_I (J 1), o_goto 7] := rfl
theorem k280_6 : a_bl 280 6 = [o_I (J 0), o_ft 7] := rfl
theorem k280_7 : a_bl 280 7 = [o_is 9, o_il 3, o_if 1 8, o_il 1, o_goto 9] := rfl
theorem k280_8 : a_bl 280 8 = [o_il 2, o_ft 9] := rfl
theorem k280_9 : a_bl 280 9 = [o_is 10, o_I (J 0), o_is 11, o_ft 10] := rfl
theorem k280_10 : a_bl 280 10 = [o_il 9, o_if 0 11, o_il 11, o_al 0, o_getR 11 8, o_il 10, o_iald, o_ic 3 11, o_al 0, o_I (J 8), o_il 10, o_bin 2, o_il 11, o_bin 0, o_I (J 8), o_il 5, o_bin 2, o_il 7, o_bin 0, o_call 230, o_iinc 7 (J 1), o_iinc 11 (J 1), o_goto 10] := rfl
theorem k280_11 : a_bl 280 11 = [o_I (J 0), o_is 11, o_ft 12] := rfl
theorem k280_12 : a_bl 280 12 = [o_il 9, o_if 1 21, o_il 11, o_al 0, o_getR 11 8, o_il 1, o_iald, o_ic 3 21, o_I (J 8), o_il 1, o_bin 2, o_il 11, o_bin 0, o_is 12, o_al 0, o_getR 11 48, o_il 11, o_iald, o_I (J 8), o_ic 1 16, o_il 6, o_if 0 13, o_al 0, o_il 12, o_I (J 8), o_il 5, o_bin 2, o_il 7, o_bin 0, o_call 230, o_ft 13] := rfl
theorem k280_13 : a_bl 280 13 = [o_il 7, o_il 6, o_if 0 14, o_I (J 1), o_goto 15] := rfl
theorem k280_14 : a_bl 280 14 = [o_I (J 0), o_ft 15] := rfl
theorem k280_15 : a_bl 280 15 = [o_bin 0, o_is 7, o_goto 20] := rfl
theorem k280_16 : a_bl 280 16 = [o_I (J 8), o_il 2, o_bin 2, o_al 0, o_getR 11 48, o_il 11, o_iald, o_bin 0, o_is 13, o_al 0, o_il 12, o_il 13, o_il 3, o_il 4, o_call 281, o_al 0, o_getI 11 15, o_I (J 2), o_ic 3 17, o_goto 20] := rfl
theorem k280_17 : a_bl 280 17 = [o_al 0, o_il 5, o_il 7, o_il 6, o_if 0 18, o_al 0, o_getR 11 9, o_il 12, o_iald, o_goto 19] := rfl
theorem k280_18 : a_bl 280 18 = [o_al 0, o_getR 11 9, o_il 13, o_iald, o_ft 19] := rfl
theorem k280_19 : a_bl 280 19 = [o_call 227, o_iinc 7 (J 1), o_ft 20] := rfl
theorem k280_20 : a_bl 280 20 = [o_iinc 11 (J 1), o_goto 12] := rfl
theorem k280_21 : a_bl 280 21 = [o_I (J 0), o_is 11, o_ft 22] := rfl
theorem k280_22 : a_bl 280 22 = [o_il 9, o_if 1 30, o_il 6, o_if 1 30, o_il 11, o_al 0, o_getR 11 8, o_il 2, o_iald, o_ic 3 30, o_I (J 0), o_is 12, o_I (J 0), o_is 13, o_ft 23] := rfl
theorem k280_23 : a_bl 280 23 = [o_il 13, o_al 0, o_getR 11 8, o_il 1, o_iald, o_ic 3 27, o_il 12, o_if 1 24, o_al 0, o_getR 11 48, o_il 13, o_iald, o_il 11, o_ic 1 25, o_ft 24] := rfl
theorem k280_24 : a_bl 280 24 = [o_I (J 1), o_goto 26] := rfl
theorem k280_25 : a_bl 280 25 = [o_I (J 0), o_ft 26] := rfl
theorem k280_26 : a_bl 280 26 = [o_is 12, o_iinc 13 (J 1), o_goto 23] := rfl
theorem k280_27 : a_bl 280 27 = [o_il 12, o_if 0 28, o_goto 29] := rfl
theorem k280_28 : a_bl 280 28 = [o_al 0, o_I (J 8), o_il 2, o_bin 2, o_il 11, o_bin 0, o_I (J 8), o_il 5, o_bin 2, o_il 7, o_bin 0, o_call 230, o_iinc 7 (J 1), o_ft 29] := rfl
theorem k280_29 : a_bl 280 29 = [o_iinc 11 (J 1), o_goto 22] := rfl
theorem k280_30 : a_bl 280 30 = [o_al 0, o_getR 11 8, o_il 5, o_il 7, o_iast, o_il 6, o_if 0 31, o_il 1, o_goto 32] := rfl
theorem k280_31 : a_bl 280 31 = [o_il 2, o_ft 32] := rfl
theorem k280_32 : a_bl 280 32 = [o_is 11, o_al 0, o_getR 11 22, o_il 5, o_al 0, o_getR 11 22, o_il 11, o_iald, o_iast, o_I (J 0), o_is 12, o_ft 33] := rfl
theorem k280_33 : a_bl 280 33 = [o_il 12, o_al 0, o_getR 11 22, o_il 11, o_iald, o_ic 3 34, o_al 0, o_I (J 6), o_il 11, o_bin 2, o_il 12, o_bin 0, o_I (J 6), o_il 5, o_bin 2, o_il 12, o_bin 0, o_call 258, o_iinc 12 (J 1), o_goto 33] := rfl
theorem k280_34 : a_bl 280 34 = [o_il 8, o_if 3 35, o_I (J (-1)), o_goto 36] := rfl
theorem k280_35 : a_bl 280 35 = [o_il 7, o_ft 36] := rfl
theorem k280_36 : a_bl 280 36 = [o_ret 1] := rfl
theorem k280_r : a_rt 280 = (some .int) := rfl
theorem k280_s {E : AEn} {hi : AHi} {hr : AHr} {n : Nat} {Q : ARs → Prop} (x0 : Nat) (x1 : Int32) (x2 : Int32) (x3 : Int32) (x4 : Int32) (x5 : Int32) : Sp E 280 [.ref x0, .int x1, .int x2, .int x3, .int x4, .int x5] hi hr n Q ↔ Tm E 280 (a_bl 280 0) [.ref x0, .int x1, .int x2, .int x3, .int x4, .int x5, a_mk, a_mk, a_mk, a_mk, a_mk, a_mk, a_mk, a_mk] [] hi hr n Q := Iff.rfl
theorem K280 : (type_of% k280_0) ∧ (type_of% k280_1) ∧ (type_of% k280_2) ∧ (type_of% k280_3) ∧ (type_of% k280_4) ∧ (type_of% k280_5) ∧ (type_of% k280_6) ∧ (type_of% k280_7) ∧ (type_of% k280_8) ∧ (type_of% k280_9) ∧ (type_of% k280_11) ∧ (type_of% k280_13) ∧ (type_of% k280_14) ∧ (type_of% k280_15) ∧ (type_of% k280_16) ∧ (type_of% k280_17) ∧ (type_of% k280_18) ∧ (type_of% k280_19) ∧ (type_of% k280_20) ∧ (type_of% k280_21) ∧ (type_of% k280_24) ∧ (type_of% k280_25) ∧ (type_of% k280_26) ∧ (type_of% k280_27) ∧ (type_of% k280_28) ∧ (type_of% k280_29) ∧ (type_of% k280_30) ∧ (type_of% k280_31) ∧ (type_of% k280_32) ∧ (type_of% k280_34) ∧ (type_of% k280_35) ∧ (type_of% k280_36) ∧ (type_of% k280_r) ∧ (type_of% @k280_s) := ⟨k280_0, k280_1, k280_2, k280_3, k280_4, k280_5, k280_6, k280_7, k280_8, k280_9, k280_11, k280_13, k280_14, k280_15, k280_16, k280_17, k280_18, k280_19, k280_20, k280_21, k280_24, k280_25, k280_26, k280_27, k280_28, k280_29, k280_30, k280_31, k280_32, k280_34, k280_35, k280_36, k280_r, @k280_s⟩
theorem c280 {m : Nat} {is : List AOp} {ls st : List Value} {E : AEn} {hi : AHi} {hr : AHr} {n : Nat} {Q : ARs → Prop} (x0 : Nat) (x1 : Int32) (x2 : Int32) (x3 : Int32) (x4 : Int32) (x5 : Int32) : Tm E m (o_call 280 :: is) ls (.int x5 :: .int x4 :: .int x3 :: .int x2 :: .int x1 :: .ref x0 :: st) hi hr n Q ↔ (a_kd x0 = 11 ∧ x0 < n ∧ st.length ≤ 4) ∧ Sp E 280 [.ref x0, .int x1, .int x2, .int x3, .int x4, .int x5] hi hr n (fun r => Tm E m is ls (r.1.toList ++ st) r.2.1 r.2.2.1 r.2.2.2 Q) := T_cI [.int x1, .int x2, .int x3, .int x4, .int x5] rfl rfl rfl rfl
/-! CartoonHouseModel.halfway(IIII)V -/
theorem k281_0 : a_bl 281 0 = [o_al 0, o_getR 11 10, o_il 1, o_iald, o_al 0, o_getR 11 10, o_il 2, o_iald, o_call 241, o_is 5, o_al 0, o_I (J 0), o_putI 11 15, o_I (J 0), o_is 6, o_ft 1] := rfl
theorem k281_1 : a_bl 281 1 = [o_il 6, o_il 5, o_ic 3 10, o_I (J 0), o_is 7, o_I (J 0), o_is 8, o_I (J 0), o_is 9, o_ft 2] := rfl
theorem k281_2 : a_bl 281 2 = [o_il 9, o_I (J 2), o_ic 3 7, o_al 0, o_il 1, o_il 6, o_il 5, o_il 9, o_call 282, o_lst 10, o_al 0, o_il 2, o_il 6, o_il 5, o_il 9, o_call 282, o_lst 12, o_ll 10, o_il 4, o_un 1, o_binL 2, o_ll 12, o_ll 10, o_binL 1, o_il 3, o_un 1, o_binL 2, o_binL 0, o_il 5, o_I (J 1), o_bin 1, o_un 1, o_il 4, o_un 1, o_binL 2, o_call 243, o_is 14, o_il 9, o_if 1 3, o_il 14, o_goto 4] := rfl
theorem k281_3 : a_bl 281 3 = [o_il 7, o_ft 4] := rfl
theorem k281_4 : a_bl 281 4 = [o_is 7, o_il 9, o_if 1 5, o_il 8, o_goto 6] := rfl
theorem k281_5 : a_bl 281 5 = [o_il 14, o_ft 6] := rfl
theorem k281_6 : a_bl 281 6 = [o_is 8, o_iinc 9 (J 1), o_goto 2] := rfl
theorem k281_7 : a_bl 281 7 = [o_al 0, o_getI 11 15, o_if 5 8, o_al 0, o_getR 11 13, o_al 0, o_getI 11 15, o_I (J 1), o_bin 1, o_iald, o_il 7, o_ic 1 8, o_al 0, o_getR 11 14, o_al 0, o_getI 11 15, o_I (J 1), o_bin 1, o_iald, o_il 8, o_ic 1 8, o_goto 9] := rfl
theorem k281_8 : a_bl 281 8 = [o_al 0, o_getR 11 13, o_al 0, o_getI 11 15, o_il 7, o_iast, o_al 0, o_getR 11 14, o_al 0, o_getI 11 15, o_il 8, o_iast, o_al 0, o_dup, o_getI 11 15, o_I (J 1), o_bin 0, o_putI 11 15, o_ft 9] := rfl
theorem k281_9 : a_bl 281 9 = [o_iinc 6 (J 1), o_goto 1] := rfl
theorem k281_10 : a_bl 281 10 = [o_ret 0] := rfl
theorem k281_r : a_rt 281 = none := rfl
theorem k281_s {E : AEn} {hi : AHi} {hr : AHr} {n : Nat} {Q : ARs → Prop} (x0 : Nat) (x1 : Int32) (x2 : Int32) (x3 : Int32) (x4 : Int32) : Sp E 281 [.ref x0, .int x1, .int x2, .int x3, .int x4] hi hr n Q ↔ Tm E 281 (a_bl 281 0) [.ref x0, .int x1, .int x2, .int x3, .int x4, a_mk, a_mk, a_mk, a_mk, a_mk, a_mk, a_mk, a_mk, a_mk, a_mk] [] hi hr n Q := Iff.rfl
theorem K281 : (type_of% k281_0) ∧ (type_of% k281_3) ∧ (type_of% k281_4) ∧ (type_of% k281_5) ∧ (type_of% k281_6) ∧ (type_of% k281_7) ∧ (type_of% k281_8) ∧ (type_of% k281_9) ∧ (type_of% k281_10) ∧ (type_of% k281_r) ∧ (type_of% @k281_s) := ⟨k281_0, k281_3, k281_4, k281_5, k281_6, k281_7, k281_8, k281_9, k281_10, k281_r, @k281_s⟩
theorem c281 {m : Nat} {is : List AOp} {ls st : List Value} {E : AEn} {hi : AHi} {hr : AHr} {n : Nat} {Q : ARs → Prop} (x0 : Nat) (x1 : Int32) (x2 : Int32) (x3 : Int32) (x4 : Int32) : Tm E m (o_call 281 :: is) ls (.int x4 :: .int x3 :: .int x2 :: .int x1 :: .ref x0 :: st) hi hr n Q ↔ (a_kd x0 = 11 ∧ x0 < n ∧ st.length ≤ 4) ∧ Sp E 281 [.ref x0, .int x1, .int x2, .int x3, .int x4] hi hr n (fun r => Tm E m is ls (r.1.toList ++ st) r.2.1 r.2.2.1 r.2.2.2 Q) := T_cI [.int x1, .int x2, .int x3, .int x4] rfl rfl rfl rfl
/-! CartoonHouseModel.part(IIII)J -/
theorem k282_0 : a_bl 282 0 = [o_il 2, o_al 0, o_getR 11 10, o_il 1, o_iald, o_I (J 1), o_bin 1, o_bin 2, o_il 3, o_I (J 1), o_bin 1, o_bin 9, o_is 5, o_il 2, o_al 0, o_getR 11 10, o_il 1, o_iald, o_I (J 1), o_bin 1, o_bin 2, o_il 3, o_I (J 1), o_bin 1, o_bin 10, o_is 6, o_il 4, o_if 1 1, o_al 0, o_getR 11 11, o_I (J 10), o_il 1, o_bin 2, o_il 5, o_bin 0, o_iald, o_goto 2] := rfl
theorem k282_1 : a_bl 282 1 = [o_al 0, o_getR 11 12, o_I (J 10), o_il 1, o_bin 2, o_il 5, o_bin 0, o_iald, o_ft 2] := rfl
theorem k282_2 : a_bl 282 2 = [o_is 7, o_il 6, o_if 1 3, o_il 7, o_goto 5] := rfl
theorem k282_3 : a_bl 282 3 = [o_il 4, o_if 1 4, o_al 0, o_getR 11 11, o_I (J 10), o_il 1, o_bin 2, o_il 5, o_bin 0, o_I (J 1), o_bin 0, o_iald, o_goto 5] := rfl
theorem k282_4 : a_bl 282 4 = [o_al 0, o_getR 11 12, o_I (J 10), o_il 1, o_bin 2, o_il 5, o_bin 0, o_I (J 1), o_bin 0, o_iald, o_ft 5] := rfl
theorem k282_5 : a_bl 282 5 = [o_is 8, o_il 7, o_un 1, o_il 3, o_I (J 1), o_bin 1, o_un 1, o_binL 2, o_il 8, o_il 7, o_bin 1, o_un 1, o_il 6, o_un 1, o_binL 2, o_binL 0, o_ret 2] := rfl
theorem k282_r : a_rt 282 = (some .long) := rfl
theorem k282_s {E : AEn} {hi : AHi} {hr : AHr} {n : Nat} {Q : ARs → Prop} (x0 : Nat) (x1 : Int32) (x2 : Int32) (x3 : Int32) (x4 : Int32) : Sp E 282 [.ref x0, .int x1, .int x2, .int x3, .int x4] hi hr n Q ↔ Tm E 282 (a_bl 282 0) [.ref x0, .int x1, .int x2, .int x3, .int x4, a_mk, a_mk, a_mk, a_mk] [] hi hr n Q := Iff.rfl
theorem K282 : (type_of% k282_0) ∧ (type_of% k282_1) ∧ (type_of% k282_2) ∧ (type_of% k282_3) ∧ (type_of% k282_4) ∧ (type_of% k282_5) ∧ (type_of% k282_r) ∧ (type_of% @k282_s) := ⟨k282_0, k282_1, k282_2, k282_3, k282_4, k282_5, k282_r, @k282_s⟩
theorem c282 {m : Nat} {is : List AOp} {ls st : List Value} {E : AEn} {hi : AHi} {hr : AHr} {n : Nat} {Q : ARs → Prop} (x0 : Nat) (x1 : Int32) (x2 : Int32) (x3 : Int32) (x4 : Int32) : Tm E m (o_call 282 :: is) ls (.int x4 :: .int x3 :: .int x2 :: .int x1 :: .ref x0 :: st) hi hr n Q ↔ (a_kd x0 = 11 ∧ x0 < n ∧ st.length ≤ 4) ∧ Sp E 282 [.ref x0, .int x1, .int x2, .int x3, .int x4] hi hr n (fun r => Tm E m is ls (r.1.toList ++ st) r.2.1 r.2.2.1 r.2.2.2 Q) := T_cI [.int x1, .int x2, .int x3, .int x4] rfl rfl rfl rfl
/-! CartoonHouseModel.bone(IIII)I -/
theorem k283_0 : a_bl 283 0 = [o_al 0, o_getI 11 50, o_if 1 2, o_il 1, o_I (J (-1)), o_ic 1 1, o_I (J 1), o_goto 3] := rfl
theorem k283_1 : a_bl 283 1 = [o_I (J 0), o_goto 3] := rfl
theorem k283_2 : a_bl 283 2 = [o_il 1, o_I (J 0), o_al 0, o_getI 11 50, o_I (J 1), o_bin 1, o_call 219, o_ft 3] := rfl
theorem k283_3 : a_bl 283 3 = [o_is 5, o_il 5, o_if 0 4, o_il 2, o_I (J 0), o_I (J 40), o_call 219, o_if 0 4, o_il 3, o_I (J 0), o_I (J 31), o_call 219, o_if 0 4, o_il 4, o_il 3, o_I (J 31), o_call 219, o_if 1 5, o_ft 4] := rfl
theorem k283_4 : a_bl 283 4 = [o_I (J (-1)), o_ret 1] := rfl
theorem k283_5 : a_bl 283 5 = [o_al 0, o_getI 11 50, o_I (J 10), o_ic 1 6, o_I (J (-4)), o_ret 1] := rfl
theorem k283_6 : a_bl 283 6 = [o_al 0, o_getR 11 53, o_al 0, o_getI 11 50, o_il 1, o_iast, o_al 0, o_getR 11 54, o_al 0, o_getI 11 50, o_il 2, o_iast, o_al 0, o_getR 11 55, o_al 0, o_getI 11 50, o_il 3, o_iast, o_al 0, o_getR 11 56, o_al 0, o_getI 11 50, o_il 4, o_iast, o_al 0, o_getR 11 57, o_al 0, o_getI 11 50, o_I (J 0), o_iast, o_al 0, o_dup, o_getI 11 50, o_I (J 1), o_bin 0, o_putI 11 50, o_al 0, o_getI 11 50, o_I (J 1), o_bin 1, o_ret 1] := rfl
theorem k283_r : a_rt 283 = (some .int) := rfl
theorem k283_s {E : AEn} {hi : AHi} {hr : AHr} {n : Nat} {Q : ARs → Prop} (x0 : Nat) (x1 : Int32) (x2 : Int32) (x3 : Int32) (x4 : Int32) : Sp E 283 [.ref x0, .int x1, .int x2, .int x3, .int x4] hi hr n Q ↔ Tm E 283 (a_bl 283 0) [.ref x0, .int x1, .int x2, .int x3, .int x4, a_mk] [] hi hr n Q := Iff.rfl
theorem K283 : (type_of% k283_0) ∧ (type_of% k283_1) ∧ (type_of% k283_2) ∧ (type_of% k283_3) ∧ (type_of% k283_4) ∧ (type_of% k283_5) ∧ (type_of% k283_6) ∧ (type_of% k283_r) ∧ (type_of% @k283_s) := ⟨k283_0, k283_1, k283_2, k283_3, k283_4, k283_5, k283_6, k283_r, @k283_s⟩
theorem c283 {m : Nat} {is : List AOp} {ls st : List Value} {E : AEn} {hi : AHi} {hr : AHr} {n : Nat} {Q : ARs → Prop} (x0 : Nat) (x1 : Int32) (x2 : Int32) (x3 : Int32) (x4 : Int32) : Tm E m (o_call 283 :: is) ls (.int x4 :: .int x3 :: .int x2 :: .int x1 :: .ref x0 :: st) hi hr n Q ↔ (a_kd x0 = 11 ∧ x0 < n ∧ st.length ≤ 4) ∧ Sp E 283 [.ref x0, .int x1, .int x2, .int x3, .int x4] hi hr n (fun r => Tm E m is ls (r.1.toList ++ st) r.2.1 r.2.2.1 r.2.2.2 Q) := T_cI [.int x1, .int x2, .int x3, .int x4] rfl rfl rfl rfl
/-! CartoonHouseModel.pivot(II)I -/
theorem k284_0 : a_bl 284 0 = [o_il 1, o_I (J (-400)), o_I (J 400), o_call 219, o_if 0 1, o_il 2, o_I (J (-400)), o_I (J 400), o_call 219, o_if 1 2, o_ft 1] := rfl
theorem k284_1 : a_bl 284 1 = [o_I (J (-1)), o_ret 1] := rfl
theorem k284_2 : a_bl 284 2 = [o_al 0, o_il 1, o_putI 11 51, o_al 0, o_il 2, o_putI 11 52, o_I (J 1), o_ret 1] := rfl
theorem k284_r : a_rt 284 = (some .int) := rfl
theorem k284_s {E : AEn} {hi : AHi} {hr : AHr} {n : Nat} {Q : ARs → Prop} (x0 : Nat) (x1 : Int32) (x2 : Int32) : Sp E 284 [.ref x0, .int x1, .int x2] hi hr n Q ↔ Tm E 284 (a_bl 284 0) [.ref x0, .int x1, .int x2] [] hi hr n Q := Iff.rfl
theorem K284 : (type_of% k284_0) ∧ (type_of% k284_1) ∧ (type_of% k284_2) ∧ (type_of% k284_r) ∧ (type_of% @k284_s) := ⟨k284_0, k284_1, k284_2, k284_r, @k284_s⟩
theorem c284 {m : Nat} {is : List AOp} {ls st : List Value} {E : AEn} {hi : AHi} {hr : AHr} {n : Nat} {Q : ARs → Prop} (x0 : Nat) (x1 : Int32) (x2 : Int32) : Tm E m (o_call 284 :: is) ls (.int x2 :: .int x1 :: .ref x0 :: st) hi hr n Q ↔ (a_kd x0 = 11 ∧ x0 < n ∧ st.length ≤ 4) ∧ Sp E 284 [.ref x0, .int x1, .int x2] hi hr n (fun r => Tm E m is ls (r.1.toList ++ st) r.2.1 r.2.2.1 r.2.2.2 Q) := T_cI [.int x1, .int x2] rfl rfl rfl rfl
/-! CartoonHouseModel.key(III)I -/
theorem k285_0 : a_bl 285 0 = [o_al 0, o_il 1, o_call 286, o_if 0 1, o_il 2, o_call 287, o_if 0 1, o_il 3, o_al 0, o_getR 11 55, o_il 1, o_iald, o_al 0, o_getR 11 56, o_il 1, o_iald, o_call 219, o_if 1 2, o_ft 1] := rfl
theorem k285_1 : a_bl 285 1 = [o_I (J (-1)), o_ret 1] := rfl
theorem k285_2 : a_bl 285 2 = [o_al 0, o_il 1, o_il 2, o_call 288, o_if 3 3, o_al 0, o_getR 11 57, o_il 1, o_iald, o_I (J 6), o_ic 1 3, o_I (J (-4)), o_ret 1] := rfl
theorem k285_3 : a_bl 285 3 = [o_al 0, o_il 1, o_il 2, o_il 3, o_call 289, o_al 0, o_getR 11 57, o_il 1, o_iald, o_ret 1] := rfl
theorem k285_r : a_rt 285 = (some .int) := rfl
theorem k285_s {E : AEn} {hi : AHi} {hr : AHr} {n : Nat} {Q : ARs → Prop} (x0 : Nat) (x1 : Int32) (x2 : Int32) (x3 : Int32) : Sp E 285 [.ref x0, .int x1, .int x2, .int x3] hi hr n Q ↔ Tm E 285 (a_bl 285 0) [.ref x0, .int x1, .int x2, .int x3] [] hi hr n Q := Iff.rfl
theorem K285 : (type_of% k285_0) ∧ (type_of% k285_1) ∧ (type_of% k285_2) ∧ (type_of% k285_3) ∧ (type_of% k285_r) ∧ (type_of% @k285_s) := ⟨k285_0, k285_1, k285_2, k285_3, k285_r, @k285_s⟩
theorem c285 {m : Nat} {is : List AOp} {ls st : List Value} {E : AEn} {hi : AHi} {hr : AHr} {n : Nat} {Q : ARs → Prop} (x0 : Nat) (x1 : Int32) (x2 : Int32) (x3 : Int32) : Tm E m (o_call 285 :: is) ls (.int x3 :: .int x2 :: .int x1 :: .ref x0 :: st) hi hr n Q ↔ (a_kd x0 = 11 ∧ x0 < n ∧ st.length ≤ 4) ∧ Sp E 285 [.ref x0, .int x1, .int x2, .int x3] hi hr n (fun r => Tm E m is ls (r.1.toList ++ st) r.2.1 r.2.2.1 r.2.2.2 Q) := T_cI [.int x1, .int x2, .int x3] rfl rfl rfl rfl
/-! CartoonHouseModel.isBone(I)Z -/
theorem k286_0 : a_bl 286 0 = [o_il 1, o_I (J 0), o_al 0, o_getI 11 50, o_I (J 1), o_bin 1, o_call 219, o_ret 1] := rfl
theorem k286_r : a_rt 286 = (some .boolean) := rfl
theorem k286_s {E : AEn} {hi : AHi} {hr : AHr} {n : Nat} {Q : ARs → Prop} (x0 : Nat) (x1 : Int32) : Sp E 286 [.ref x0, .int x1] hi hr n Q ↔ Tm E 286 (a_bl 286 0) [.ref x0, .int x1] [] hi hr n Q := Iff.rfl
theorem K286 : (type_of% k286_0) ∧ (type_of% k286_r) ∧ (type_of% @k286_s) := ⟨k286_0, k286_r, @k286_s⟩
theorem c286 {m : Nat} {is : List AOp} {ls st : List Value} {E : AEn} {hi : AHi} {hr : AHr} {n : Nat} {Q : ARs → Prop} (x0 : Nat) (x1 : Int32) : Tm E m (o_call 286 :: is) ls (.int x1 :: .ref x0 :: st) hi hr n Q ↔ (a_kd x0 = 11 ∧ x0 < n ∧ st.length ≤ 4) ∧ Sp E 286 [.ref x0, .int x1] hi hr n (fun r => Tm E m is ls (r.1.toList ++ st) r.2.1 r.2.2.1 r.2.2.2 Q) := T_cI [.int x1] rfl rfl rfl rfl
/-! CartoonHouseModel.isFrame(I)Z -/
theorem k287_0 : a_bl 287 0 = [o_il 0, o_I (J 0), o_I (J 119), o_call 219, o_ret 1] := rfl
theorem k287_r : a_rt 287 = (some .boolean) := rfl
theorem k287_s {E : AEn} {hi : AHi} {hr : AHr} {n : Nat} {Q : ARs → Prop} (x0 : Int32) : Sp E 287 [.int x0] hi hr n Q ↔ Tm E 287 (a_bl 287 0) [.int x0] [] hi hr n Q := Iff.rfl
theorem K287 : (type_of% k287_0) ∧ (type_of% k287_r) ∧ (type_of% @k287_s) := ⟨k287_0, k287_r, @k287_s⟩
theorem c287 {m : Nat} {is : List AOp} {ls st : List Value} {E : AEn} {hi : AHi} {hr : AHr} {n : Nat} {Q : ARs → Prop} (x0 : Int32) : Tm E m (o_call 287 :: is) ls (.int x0 :: st) hi hr n Q ↔ st.length ≤ 4 ∧ Sp E 287 [.int x0] hi hr n (fun r => Tm E m is ls (r.1.toList ++ st) r.2.1 r.2.2.1 r.2.2.2 Q) := T_cS [.int x0] rfl rfl
/-! CartoonHouseModel.keyAt(II)I -/
theorem k288_0 : a_bl 288 0 = [o_I (J (-1)), o_is 3, o_I (J 6), o_il 1, o_bin 2, o_is 4, o_ft 1] := rfl
theorem k288_1 : a_bl 288 1 = [o_il 4, o_I (J 6), o_il 1, o_bin 2, o_al 0, o_getR 11 57, o_il 1, o_iald, o_bin 0, o_ic 3 4, o_al 0, o_getR 11 58, o_il 4, o_iald, o_il 2, o_ic 1 2, o_il 4, o_goto 3] := rfl
theorem k288_2 : a_bl 288 2 = [o_il 3, o_ft 3] := rfl
theorem k288_3 : a_bl 288 3 = [o_is 3, o_iinc 4 (J 1), o_goto 1] := rfl
theorem k288_4 : a_bl 288 4 = [o_il 3, o_ret 1] := rfl
theorem k288_r : a_rt 288 = (some .int) := rfl
theorem k288_s {E : AEn} {hi : AHi} {hr : AHr} {n : Nat} {Q : ARs → Prop} (x0 : Nat) (x1 : Int32) (x2 : Int32) : Sp E 288 [.ref x0, .int x1, .int x2] hi hr n Q ↔ Tm E 288 (a_bl 288 0) [.ref x0, .int x1, .int x2, a_mk, a_mk] [] hi hr n Q := Iff.rfl
theorem K288 : (type_of% k288_0) ∧ (type_of% k288_2) ∧ (type_of% k288_3) ∧ (type_of% k288_4) ∧ (type_of% k288_r) ∧ (type_of% @k288_s) := ⟨k288_0, k288_2, k288_3, k288_4, k288_r, @k288_s⟩
theorem c288 {m : Nat} {is : List AOp} {ls st : List Value} {E : AEn} {hi : AHi} {hr : AHr} {n : Nat} {Q : ARs → Prop} (x0 : Nat) (x1 : Int32) (x2 : Int32) : Tm E m (o_call 288 :: is) ls (.int x2 :: .int x1 :: .ref x0 :: st) hi hr n Q ↔ (a_kd x0 = 11 ∧ x0 < n ∧ st.length ≤ 4) ∧ Sp E 288 [.ref x0, .int x1, .int x2] hi hr n (fun r => Tm E m is ls (r.1.toList ++ st) r.2.1 r.2.2.1 r.2.2.2 Q) := T_cI [.int x1, .int x2] rfl rfl rfl rfl
/-! CartoonHouseModel.putKey(III)V -/
theorem k289_0 : a_bl 289 0 = [o_al 0, o_il 1, o_il 2, o_call 288, o_is 4, o_il 4, o_if 3 1, o_I (J 6), o_il 1, o_bin 2, o_al 0, o_getR 11 57, o_il 1, o_iald, o_bin 0, o_is 4, o_al 0, o_getR 11 57, o_il 1, o_dup2, o_iald, o_I (J 1), o_bin 0, o_iast, o_ft 1] := rfl
theorem k289_1 : a_bl 289 1 = [o_al 0, o_getR 11 58, o_il 4, o_il 2, o_iast, o_al 0, o_getR 11 59, o_il 4, o_il 3, o_iast, o_ret 0] := rfl
theorem k289_r : a_rt 289 = none := rfl
theorem k289_s {E : AEn} {hi : AHi} {hr : AHr} {n : Nat} {Q : ARs → Prop} (x0 : Nat) (x1 : Int32) (x2 : Int32) (x3 : Int32) : Sp E 289 [.ref x0, .int x1, .int x2, .int x3] hi hr n Q ↔ Tm E 289 (a_bl 289 0) [.ref x0, .int x1, .int x2, .int x3, a_mk] [] hi hr n Q := Iff.rfl
theorem K289 : (type_of% k289_0) ∧ (type_of% k289_1) ∧ (type_of% k289_r) ∧ (type_of% @k289_s) := ⟨k289_0, k289_1, k289_r, @k289_s⟩
theorem c289 {m : Nat} {is : List AOp} {ls st : List Value} {E : AEn} {hi : AHi} {hr : AHr} {n : Nat} {Q : ARs → Prop} (x0 : Nat) (x1 : Int32) (x2 : Int32) (x3 : Int32) : Tm E m (o_call 289 :: is) ls (.int x3 :: .int x2 :: .int x1 :: .ref x0 :: st) hi hr n Q ↔ (a_kd x0 = 11 ∧ x0 < n ∧ st.length ≤ 4) ∧ Sp E 289 [.ref x0, .int x1, .int x2, .int x3] hi hr n (fun r => Tm E m is ls (r.1.toList ++ st) r.2.1 r.2.2.1 r.2.2.2 Q) := T_cI [.int x1, .int x2, .int x3] rfl rfl rfl rfl
/-! CartoonHouseModel.angle(II)I -/
theorem k290_0 : a_bl 290 0 = [o_al 0, o_il 1, o_call 286, o_if 0 1, o_il 2, o_call 287, o_if 0 1, o_al 0, o_il 1, o_il 2, o_call 291, o_goto 2] := rfl
theorem k290_1 : a_bl 290 1 = [o_I (J (-1)), o_ft 2] := rfl
theorem k290_2 : a_bl 290 2 = [o_ret 1] := rfl
theorem k290_r : a_rt 290 = (some .int) := rfl
theorem k290_s {E : AEn} {hi : AHi} {hr : AHr} {n : Nat} {Q : ARs → Prop} (x0 : Nat) (x1 : Int32) (x2 : Int32) : Sp E 290 [.ref x0, .int x1, .int x2] hi hr n Q ↔ Tm E 290 (a_bl 290 0) [.ref x0, .int x1, .int x2] [] hi hr n Q := Iff.rfl
theorem K290 : (type_of% k290_0) ∧ (type_of% k290_1) ∧ (type_of% k290_2) ∧ (type_of% k290_r) ∧ (type_of% @k290_s) := ⟨k290_0, k290_1, k290_2, k290_r, @k290_s⟩
theorem c290 {m : Nat} {is : List AOp} {ls st : List Value} {E : AEn} {hi : AHi} {hr : AHr} {n : Nat} {Q : ARs → Prop} (x0 : Nat) (x1 : Int32) (x2 : Int32) : Tm E m (o_call 290 :: is) ls (.int x2 :: .int x1 :: .ref x0 :: st) hi hr n Q ↔ (a_kd x0 = 11 ∧ x0 < n ∧ st.length ≤ 4) ∧ Sp E 290 [.ref x0, .int x1, .int x2] hi hr n (fun r => Tm E m is ls (r.1.toList ++ st) r.2.1 r.2.2.1 r.2.2.2 Q) := T_cI [.int x1, .int x2] rfl rfl rfl rfl
/-! CartoonHouseModel.angleAt(II)I -/
theorem k291_0 : a_bl 291 0 = [o_al 0, o_getR 11 58, o_al 0, o_getR 11 59, o_I (J 6), o_il 1, o_bin 2, o_al 0, o_getR 11 57, o_il 1, o_iald, o_il 2, o_al 0, o_getR 11 55, o_il 1, o_iald, o_call 292, o_ret 1] := rfl
theorem k291_r : a_rt 291 = (some .int) := rfl
theorem k291_s {E : AEn} {hi : AHi} {hr : AHr} {n : Nat} {Q : ARs → Prop} (x0 : Nat) (x1 : Int32) (x2 : Int32) : Sp E 291 [.ref x0, .int x1, .int x2] hi hr n Q ↔ Tm E 291 (a_bl 291 0) [.ref x0, .int x1, .int x2] [] hi hr n Q := Iff.rfl
theorem K291 : (type_of% k291_0) ∧ (type_of% k291_r) ∧ (type_of% @k291_s) := ⟨k291_0, k291_r, @k291_s⟩
theorem c291 {m : Nat} {is : List AOp} {ls st : List Value} {E : AEn} {hi : AHi} {hr : AHr} {n : Nat} {Q : ARs → Prop} (x0 : Nat) (x1 : Int32) (x2 : Int32) : Tm E m (o_call 291 :: is) ls (.int x2 :: .int x1 :: .ref x0 :: st) hi hr n Q ↔ (a_kd x0 = 11 ∧ x0 < n ∧ st.length ≤ 4) ∧ Sp E 291 [.ref x0, .int x1, .int x2] hi hr n (fun r => Tm E m is ls (r.1.toList ++ st) r.2.1 r.2.2.1 r.2.2.2 Q) := T_cI [.int x1, .int x2] rfl rfl rfl rfl
/-! CartoonHouseModel.byKeys([I[IIIII)I -/
theorem k292_0 : a_bl 292 0 = [o_I (J (-1)), o_is 6, o_I (J (-1)), o_is 7, o_il 2, o_is 8, o_ft 1] := rfl
theorem k292_1 : a_bl 292 1 = [o_il 8, o_il 2, o_il 3, o_bin 0, o_ic 3 6, o_al 0, o_il 8, o_iald, o_il 4, o_ic 4 3, o_il 6, o_if 2 2, o_al 0, o_il 8, o_iald, o_al 0, o_il 6, o_iald, o_ic 5 3, o_ft 2] := rfl
theorem k292_2 : a_bl 292 2 = [o_il 8, o_is 6, o_ft 3] := rfl
theorem k292_3 : a_bl 292 3 = [o_al 0, o_il 8, o_iald, o_il 4, o_ic 2 5, o_il 7, o_if 2 4, o_al 0, o_il 8, o_iald, o_al 0, o_il 7, o_iald, o_ic 3 5, o_ft 4] := rfl
theorem k292_4 : a_bl 292 4 = [o_il 8, o_is 7, o_ft 5] := rfl
theorem k292_5 : a_bl 292 5 = [o_iinc 8 (J 1), o_goto 1] := rfl
theorem k292_6 : a_bl 292 6 = [o_il 6, o_if 3 7, o_il 7, o_if 3 7, o_il 5, o_ret 1] := rfl
theorem k292_7 : a_bl 292 7 = [o_il 6, o_if 3 8, o_al 1, o_il 7, o_iald, o_ret 1] := rfl
theorem k292_8 : a_bl 292 8 = [o_il 7, o_if 2 9, o_il 6, o_il 7, o_ic 1 10, o_ft 9] := rfl
theorem k292_9 : a_bl 292 9 = [o_al 1, o_il 6, o_iald, o_ret 1] := rfl
theorem k292_10 : a_bl 292 10 = [o_al 1, o_il 6, o_iald, o_al 1, o_il 7, o_iald, o_al 1, o_il 6, o_iald, o_bin 1, o_un 1, o_il 4, o_al 0, o_il 6, o_iald, o_bin 1, o_un 1, o_binL 2, o_al 0, o_il 7, o_iald, o_al 0, o_il 6, o_iald, o_bin 1, o_un 1, o_call 243, o_bin 0, o_ret 1] := rfl
theorem k292_r : a_rt 292 = (some .int) := rfl
theorem k292_s {E : AEn} {hi : AHi} {hr : AHr} {n : Nat} {Q : ARs → Prop} (x0 : Nat) (x1 : Nat) (x2 : Int32) (x3 : Int32) (x4 : Int32) (x5 : Int32) : Sp E 292 [.ref x0, .ref x1, .int x2, .int x3, .int x4, .int x5] hi hr n Q ↔ Tm E 292 (a_bl 292 0) [.ref x0, .ref x1, .int x2, .int x3, .int x4, .int x5, a_mk, a_mk, a_mk] [] hi hr n Q := Iff.rfl
theorem K292 : (type_of% k292_0) ∧ (type_of% k292_2) ∧ (type_of% k292_3) ∧ (type_of% k292_4) ∧ (type_of% k292_5) ∧ (type_of% k292_6) ∧ (type_of% k292_7) ∧ (type_of% k292_8) ∧ (type_of% k292_9) ∧ (type_of% k292_10) ∧ (type_of% k292_r) ∧ (type_of% @k292_s) := ⟨k292_0, k292_2, k292_3, k292_4, k292_5, k292_6, k292_7, k292_8, k292_9, k292_10, k292_r, @k292_s⟩
theorem c292 {m : Nat} {is : List AOp} {ls st : List Value} {E : AEn} {hi : AHi} {hr : AHr} {n : Nat} {Q : ARs → Prop} (x0 : Nat) (x1 : Nat) (x2 : Int32) (x3 : Int32) (x4 : Int32) (x5 : Int32) : Tm E m (o_call 292 :: is) ls (.int x5 :: .int x4 :: .int x3 :: .int x2 :: .ref x1 :: .ref x0 :: st) hi hr n Q ↔ st.length ≤ 4 ∧ Sp E 292 [.ref x0, .ref x1, .int x2, .int x3, .int x4, .int x5] hi hr n (fun r => Tm E m is ls (r.1.toList ++ st) r.2.1 r.2.2.1 r.2.2.2 Q) := T_cS [.ref x0, .ref x1, .int x2, .int x3, .int x4, .int x5] rfl rfl
/-! CartoonHouseModel.at(III)I -/
theorem k293_0 : a_bl 293 0 = [o_al 0, o_il 1, o_call 286, o_if 0 1, o_il 2, o_call 287, o_if 0 1, o_il 3, o_I (J 0), o_I (J 1), o_call 219, o_if 1 2, o_ft 1] := rfl
theorem k293_1 : a_bl 293 1 = [o_I (J (-100000)), o_ret 1] := rfl
theorem k293_2 : a_bl 293 2 = [o_al 0, o_il 2, o_call 294, o_al 0, o_il 1, o_call 295, o_il 3, o_if 1 3, o_al 0, o_getI 11 61, o_goto 4] := rfl
theorem k293_3 : a_bl 293 3 = [o_al 0, o_getI 11 62, o_ft 4] := rfl
theorem k293_4 : a_bl 293 4 = [o_ret 1] := rfl
theorem k293_r : a_rt 293 = (some .int) := rfl
theorem k293_s {E : AEn} {hi : AHi} {hr : AHr} {n : Nat} {Q : ARs → Prop} (x0 : Nat) (x1 : Int32) (x2 : Int32) (x3 : Int32) : Sp E 293 [.ref x0, .int x1, .int x2, .int x3] hi hr n Q ↔ Tm E 293 (a_bl 293 0) [.ref x0, .int x1, .int x2, .int x3] [] hi hr n Q := Iff.rfl
theorem K293 : (type_of% k293_0) ∧ (type_of% k293_1) ∧ (type_of% k293_2) ∧ (type_of% k293_3) ∧ (type_of% k293_4) ∧ (type_of% k293_r) ∧ (type_of% @k293_s) := ⟨k293_0, k293_1, k293_2, k293_3, k293_4, k293_r, @k293_s⟩
theorem c293 {m : Nat} {is : List AOp} {ls st : List Value} {E : AEn} {hi : AHi} {hr : AHr} {n : Nat} {Q : ARs → Prop} (x0 : Nat) (x1 : Int32) (x2 : Int32) (x3 : Int32) : Tm E m (o_call 293 :: is) ls (.int x3 :: .int x2 :: .int x1 :: .ref x0 :: st) hi hr n Q ↔ (a_kd x0 = 11 ∧ x0 < n ∧ st.length ≤ 4) ∧ Sp E 293 [.ref x0, .int x1, .int x2, .int x3] hi hr n (fun r => Tm E m is ls (r.1.toList ++ st) r.2.1 r.2.2.1 r.2.2.2 Q) := T_cI [.int x1, .int x2, .int x3] rfl rfl rfl rfl
/-! CartoonHouseModel.poses(I)V -/
theorem k294_0 : a_bl 294 0 = [o_I (J 0), o_is 2, o_ft 1] := rfl
theorem k294_1 : a_bl 294 1 = [o_il 2, o_al 0, o_getI 11 50, o_ic 3 2, o_al 0, o_getR 11 60, o_il 2, o_al 0, o_il 2, o_il 1, o_call 291, o_iast, o_iinc 2 (J 1), o_goto 1] := rfl
theorem k294_2 : a_bl 294 2 = [o_ret 0] := rfl
theorem k294_r : a_rt 294 = none := rfl
theorem k294_s {E : AEn} {hi : AHi} {hr : AHr} {n : Nat} {Q : ARs → Prop} (x0 : Nat) (x1 : Int32) : Sp E 294 [.ref x0, .int x1] hi hr n Q ↔ Tm E 294 (a_bl 294 0) [.ref x0, .int x1, a_mk] [] hi hr n Q := Iff.rfl
theorem K294 : (type_of% k294_0) ∧ (type_of% k294_2) ∧ (type_of% k294_r) ∧ (type_of% @k294_s) := ⟨k294_0, k294_2, k294_r, @k294_s⟩
theorem c294 {m : Nat} {is : List AOp} {ls st : List Value} {E : AEn} {hi : AHi} {hr : AHr} {n : Nat} {Q : ARs → Prop} (x0 : Nat) (x1 : Int32) : Tm E m (o_call 294 :: is) ls (.int x1 :: .ref x0 :: st) hi hr n Q ↔ (a_kd x0 = 11 ∧ x0 < n ∧ st.length ≤ 4) ∧ Sp E 294 [.ref x0, .int x1] hi hr n (fun r => Tm E m is ls (r.1.toList ++ st) r.2.1 r.2.2.1 r.2.2.2 Q) := T_cI [.int x1] rfl rfl rfl rfl
/-! CartoonHouseModel.goesTo(I)V -/
theorem k295_0 : a_bl 295 0 = [o_al 0, o_getI 11 51, o_is 2, o_al 0, o_getI 11 52, o_is 3, o_il 1, o_is 4, o_ft 1] := rfl
theorem k295_1 : a_bl 295 1 = [o_il 4, o_if 2 4, o_I (J 0), o_is 5, o_il 4, o_is 6, o_ft 2] := rfl
theorem k295_2 : a_bl 295 2 = [o_il 6, o_if 2 3, o_il 5, o_al 0, o_getR 11 60, o_il 6, o_iald, o_bin 0, o_is 5, o_al 0, o_getR 11 53, o_il 6, o_iald, o_is 6, o_goto 2] := rfl
theorem k295_3 : a_bl 295 3 = [o_il 2, o_al 0, o_getR 11 54, o_il 4, o_iald, o_un 1, o_il 5, o_I (J 8), o_bin 0, o_call 296, o_un 1, o_binL 2, o_L (L 1024), o_call 243, o_bin 0, o_is 2, o_il 3, o_al 0, o_getR 11 54, o_il 4, o_iald, o_un 1, o_il 5, o_call 296, o_un 1, o_binL 2, o_L (L 1024), o_call 243, o_bin 0, o_is 3, o_al 0, o_getR 11 53, o_il 4, o_iald, o_is 4, o_goto 1] := rfl
theorem k295_4 : a_bl 295 4 = [o_al 0, o_il 2, o_putI 11 61, o_al 0, o_il 3, o_putI 11 62, o_ret 0] := rfl
theorem k295_r : a_rt 295 = none := rfl
theorem k295_s {E : AEn} {hi : AHi} {hr : AHr} {n : Nat} {Q : ARs → Prop} (x0 : Nat) (x1 : Int32) : Sp E 295 [.ref x0, .int x1] hi hr n Q ↔ Tm E 295 (a_bl 295 0) [.ref x0, .int x1, a_mk, a_mk, a_mk, a_mk, a_mk] [] hi hr n Q := Iff.rfl
theorem K295 : (type_of% k295_0) ∧ (type_of% k295_3) ∧ (type_of% k295_4) ∧ (type_of% k295_r) ∧ (type_of% @k295_s) := ⟨k295_0, k295_3, k295_4, k295_r, @k295_s⟩
theorem c295 {m : Nat} {is : List AOp} {ls st : List Value} {E : AEn} {hi : AHi} {hr : AHr} {n : Nat} {Q : ARs → Prop} (x0 : Nat) (x1 : Int32) : Tm E m (o_call 295 :: is) ls (.int x1 :: .ref x0 :: st) hi hr n Q ↔ (a_kd x0 = 11 ∧ x0 < n ∧ st.length ≤ 4) ∧ Sp E 295 [.ref x0, .int x1] hi hr n (fun r => Tm E m is ls (r.1.toList ++ st) r.2.1 r.2.2.1 r.2.2.2 Q) := T_cI [.int x1] rfl rfl rfl rfl
/-! CartoonHouseModel.sine(I)I -/
theorem k296_0 : a_bl 296 0 = [o_il 0, o_I (J 31), o_bin 3, o_is 1, o_il 1, o_I (J 16), o_bin 10, o_is 2, o_il 2, o_I (J 8), o_ic 5 1, o_I (J 16), o_il 2, o_bin 1, o_goto 2] := rfl
theorem k296_1 : a_bl 296 1 = [o_il 2, o_ft 2] := rfl
theorem k296_2 : a_bl 296 2 = [o_is 3, o_il 3, o_if 1 3, o_I (J 0), o_goto 11] := rfl
theorem k296_3 : a_bl 296 3 = [o_il 3, o_I (J 1), o_ic 1 4, o_I (J 200), o_goto 11] := rfl
theorem k296_4 : a_bl 296 4 = [o_il 3, o_I (J 2), o_ic 1 5, o_I (J 392), o_goto 11] := rfl
theorem k296_5 : a_bl 296 5 = [o_il 3, o_I (J 3), o_ic 1 6, o_I (J 569), o_goto 11] := rfl
theorem k296_6 : a_bl 296 6 = [o_il 3, o_I (J 4), o_ic 1 7, o_I (J 724), o_goto 11] := rfl
theorem k296_7 : a_bl 296 7 = [o_il 3, o_I (J 5), o_ic 1 8, o_I (J 851), o_goto 11] := rfl
theorem k296_8 : a_bl 296 8 = [o_il 3, o_I (J 6), o_ic 1 9, o_I (J 946), o_goto 11] := rfl
theorem k296_9 : a_bl 296 9 = [o_il 3, o_I (J 7), o_ic 1 10, o_I (J 1004), o_goto 11] := rfl
theorem k296_10 : a_bl 296 10 = [o_I (J 1024), o_ft 11] := rfl
theorem k296_11 : a_bl 296 11 = [o_is 4, o_il 1, o_I (J 16), o_ic 3 12, o_il 4, o_goto 13] := rfl
theorem k296_12 : a_bl 296 12 = [o_il 4, o_un 0, o_ft 13] := rfl
theorem k296_13 : a_bl 296 13 = [o_ret 1] := rfl
theorem k296_r : a_rt 296 = (some .int) := rfl
theorem k296_s {E : AEn} {hi : AHi} {hr : AHr} {n : Nat} {Q : ARs → Prop} (x0 : Int32) : Sp E 296 [.int x0] hi hr n Q ↔ Tm E 296 (a_bl 296 0) [.int x0, a_mk, a_mk, a_mk, a_mk] [] hi hr n Q := Iff.rfl
theorem K296 : (type_of% k296_0) ∧ (type_of% k296_1) ∧ (type_of% k296_2) ∧ (type_of% k296_3) ∧ (type_of% k296_4) ∧ (type_of% k296_5) ∧ (type_of% k296_6) ∧ (type_of% k296_7) ∧ (type_of% k296_8) ∧ (type_of% k296_9) ∧ (type_of% k296_10) ∧ (type_of% k296_11) ∧ (type_of% k296_12) ∧ (type_of% k296_13) ∧ (type_of% k296_r) ∧ (type_of% @k296_s) := ⟨k296_0, k296_1, k296_2, k296_3, k296_4, k296_5, k296_6, k296_7, k296_8, k296_9, k296_10, k296_11, k296_12, k296_13, k296_r, @k296_s⟩
theorem c296 {m : Nat} {is : List AOp} {ls st : List Value} {E : AEn} {hi : AHi} {hr : AHr} {n : Nat} {Q : ARs → Prop} (x0 : Int32) : Tm E m (o_call 296 :: is) ls (.int x0 :: st) hi hr n Q ↔ st.length ≤ 4 ∧ Sp E 296 [.int x0] hi hr n (fun r => Tm E m is ls (r.1.toList ++ st) r.2.1 r.2.2.1 r.2.2.2 Q) := T_cS [.int x0] rfl rfl
/-! CartoonHouseModel.reach(IIII)I -/
theorem k297_0 : a_bl 297 0 = [o_al 0, o_il 1, o_call 286, o_if 0 1, o_il 2, o_call 287, o_if 0 1, o_il 3, o_I (J (-400)), o_I (J 400), o_call 219, o_if 0 1, o_il 4, o_I (J (-400)), o_I (J 400), o_call 219, o_if 1 2, o_ft 1] := rfl
theorem k297_1 : a_bl 297 1 = [o_I (J (-1)), o_ret 1] := rfl
theorem k297_2 : a_bl 297 2 = [o_al 0, o_getR 11 53, o_il 1, o_iald, o_is 5, o_il 5, o_if 3 3, o_I (J (-1)), o_goto 4] := rfl
theorem k297_3 : a_bl 297 3 = [o_al 0, o_getR 11 53, o_il 5, o_iald, o_ft 4] := rfl
theorem k297_4 : a_bl 297 4 = [o_is 6, o_I (J 1), o_is 7, o_I (J 0), o_is 8, o_ft 5] := rfl
theorem k297_5 : a_bl 297 5 = [o_il 8, o_I (J 3), o_ic 3 12, o_il 8, o_if 1 6, o_il 1, o_goto 8] := rfl
theorem k297_6 : a_bl 297 6 = [o_il 8, o_I (J 1), o_ic 1 7, o_il 5, o_goto 8] := rfl
theorem k297_7 : a_bl 297 7 = [o_il 6, o_ft 8] := rfl
theorem k297_8 : a_bl 297 8 = [o_is 9, o_il 7, o_if 0 10, o_il 9, o_if 2 9, o_al 0, o_il 9, o_il 2, o_call 288, o_if 3 9, o_al 0, o_getR 11 57, o_il 9, o_iald, o_I (J 6), o_ic 3 10, o_ft 9] := rfl
theorem k297_9 : a_bl 297 9 = [o_I (J 1), o_goto 11] := rfl
theorem k297_10 : a_bl 297 10 = [o_I (J 0), o_ft 11] := rfl
theorem k297_11 : a_bl 297 11 = [o_is 7, o_iinc 8 (J 1), o_goto 5] := rfl
theorem k297_12 : a_bl 297 12 = [o_il 7, o_if 1 13, o_I (J (-4)), o_ret 1] := rfl
theorem k297_13 : a_bl 297 13 = [o_al 0, o_il 2, o_call 294, o_I (J (-1)), o_is 8, o_I (J 0), o_is 9, o_I (J 0), o_is 10, o_I (J 0), o_is 11, o_il 6, o_if 3 14, o_I (J 0), o_goto 15] := rfl
theorem k297_14 : a_bl 297 14 = [o_al 0, o_getR 11 55, o_il 6, o_iald, o_ft 15] := rfl
theorem k297_15 : a_bl 297 15 = [o_is 12, o_ft 16] := rfl
theorem k297_16 : a_bl 297 16 = [o_il 12, o_il 6, o_if 3 17, o_I (J 0), o_goto 18] := rfl
theorem k297_17 : a_bl 297 17 = [o_al 0, o_getR 11 56, o_il 6, o_iald, o_ft 18] := rfl
theorem k297_18 : a_bl 297 18 = [o_ic 4 31, o_il 6, o_if 2 19, o_al 0, o_getR 11 60, o_il 6, o_il 12, o_iast, o_ft 19] := rfl
theorem k297_19 : a_bl 297 19 = [o_il 5, o_if 3 20, o_I (J 0), o_goto 21] := rfl
theorem k297_20 : a_bl 297 20 = [o_al 0, o_getR 11 55, o_il 5, o_iald, o_ft 21] := rfl
theorem k297_21 : a_bl 297 21 = [o_is 13, o_ft 22] := rfl
theorem k297_22 : a_bl 297 22 = [o_il 13, o_il 5, o_if 3 23, o_I (J 0), o_goto 24] := rfl
theorem k297_23 : a_bl 297 23 = [o_al 0, o_getR 11 56, o_il 5, o_iald, o_ft 24] := rfl
theorem k297_24 : a_bl 297 24 = [o_ic 4 30, o_il 5, o_if 2 25, o_al 0, o_getR 11 60, o_il 5, o_il 13, o_iast, o_ft 25] := rfl
theorem k297_25 : a_bl 297 25 = [o_al 0, o_getR 11 55, o_il 1, o_iald, o_is 14, o_ft 26] := rfl
theorem k297_26 : a_bl 297 26 = [o_il 14, o_al 0, o_getR 11 56, o_il 1, o_iald, o_ic 4 29, o_al 0, o_getR 11 60, o_il 1, o_il 14, o_iast, o_al 0, o_il 1, o_call 295, o_al 0, o_getI 11 61, o_il 3, o_bin 1, o_al 0, o_getI 11 61, o_il 3, o_bin 1, o_bin 2, o_al 0, o_getI 11 62, o_il 4, o_bin 1, o_al 0, o_getI 11 62, o_il 4, o_bin 1, o_bin 2, o_bin 0, o_is 15, o_il 8, o_if 2 27, o_il 15, o_il 8, o_ic 2 27, o_goto 28] := rfl
theorem k297_27 : a_bl 297 27 = [o_il 15, o_is 8, o_il 12, o_is 9, o_il 13, o_is 10, o_il 14, o_is 11, o_ft 28] := rfl
theorem k297_28 : a_bl 297 28 = [o_iinc 14 (J 1), o_goto 26] := rfl
theorem k297_29 : a_bl 297 29 = [o_iinc 13 (J 1), o_goto 22] := rfl
theorem k297_30 : a_bl 297 30 = [o_iinc 12 (J 1), o_goto 16] := rfl
theorem k297_31 : a_bl 297 31 = [o_il 6, o_if 2 32, o_al 0, o_il 6, o_il 2, o_il 9, o_call 289, o_ft 32] := rfl
theorem k297_32 : a_bl 297 32 = [o_il 5, o_if 2 33, o_al 0, o_il 5, o_il 2, o_il 10, o_call 289, o_ft 33] := rfl
theorem k297_33 : a_bl 297 33 = [o_al 0, o_il 1, o_il 2, o_il 11, o_call 289, o_il 8, o_ret 1] := rfl
theorem k297_r : a_rt 297 = (some .int) := rfl
theorem k297_s {E : AEn} {hi : AHi} {hr : AHr} {n : Nat} {Q : ARs → Prop} (x0 : Nat) (x1 : Int32) (x2 : Int32) (x3 : Int32) (x4 : Int32) : Sp E 297 [.ref x0, .int x1, .int x2, .int x3, .int x4] hi hr n Q ↔ Tm E 297 (a_bl 297 0) [.ref x0, .int x1, .int x2, .int x3, .int x4, a_mk, a_mk, a_mk, a_mk, a_mk, a_mk, a_mk, a_mk, a_mk, a_mk, a_mk] [] hi hr n Q := Iff.rfl
theorem K297 : (type_of% k297_0) ∧ (type_of% k297_1) ∧ (type_of% k297_2) ∧ (type_of% k297_3) ∧ (type_of% k297_4) ∧ (type_of% k297_6) ∧ (type_of% k297_7) ∧ (type_of% k297_8) ∧ (type_of% k297_9) ∧ (type_of% k297_10) ∧ (type_of% k297_11) ∧ (type_of% k297_12) ∧ (type_of% k297_13) ∧ (type_of% k297_14) ∧ (type_of% k297_15) ∧ (type_of% k297_17) ∧ (type_of% k297_18) ∧ (type_of% k297_19) ∧ (type_of% k297_20) ∧ (type_of% k297_21) ∧ (type_of% k297_23) ∧ (type_of% k297_24) ∧ (type_of% k297_25) ∧ (type_of% k297_27) ∧ (type_of% k297_28) ∧ (type_of% k297_29) ∧ (type_of% k297_30) ∧ (type_of% k297_31) ∧ (type_of% k297_32) ∧ (type_of% k297_33) ∧ (type_of% k297_r) ∧ (type_of% @k297_s) := ⟨k297_0, k297_1, k297_2, k297_3, k297_4, k297_6, k297_7, k297_8, k297_9, k297_10, k297_11, k297_12, k297_13, k297_14, k297_15, k297_17, k297_18, k297_19, k297_20, k297_21, k297_23, k297_24, k297_25, k297_27, k297_28, k297_29, k297_30, k297_31, k297_32, k297_33, k297_r, @k297_s⟩
theorem c297 {m : Nat} {is : List AOp} {ls st : List Value} {E : AEn} {hi : AHi} {hr : AHr} {n : Nat} {Q : ARs → Prop} (x0 : Nat) (x1 : Int32) (x2 : Int32) (x3 : Int32) (x4 : Int32) : Tm E m (o_call 297 :: is) ls (.int x4 :: .int x3 :: .int x2 :: .int x1 :: .ref x0 :: st) hi hr n Q ↔ (a_kd x0 = 11 ∧ x0 < n ∧ st.length ≤ 4) ∧ Sp E 297 [.ref x0, .int x1, .int x2, .int x3, .int x4] hi hr n (fun r => Tm E m is ls (r.1.toList ++ st) r.2.1 r.2.2.1 r.2.2.2 Q) := T_cI [.int x1, .int x2, .int x3, .int x4] rfl rfl rfl rfl
/-! CartoonHouseModel.swing(IIII)I -/
theorem k298_0 : a_bl 298 0 = [o_al 0, o_il 1, o_call 286, o_if 0 1, o_il 2, o_call 287, o_if 0 1, o_il 3, o_I (J 0), o_I (J 16), o_call 219, o_if 0 1, o_il 4, o_I (J 0), o_I (J 16), o_call 219, o_if 1 2, o_ft 1] := rfl
theorem k298_1 : a_bl 298 1 = [o_I (J (-1000000000)), o_ret 1] := rfl
theorem k298_2 : a_bl 298 2 = [o_L (L 256), o_al 0, o_il 1, o_I (J 0), o_call 291, o_un 1, o_binL 2, o_lst 5, o_L (L 0), o_lst 7, o_I (J 1), o_is 9, o_ft 3] := rfl
theorem k298_3 : a_bl 298 3 = [o_il 9, o_il 2, o_ic 4 4, o_ll 7, o_L (L 256), o_al 0, o_il 1, o_il 9, o_call 291, o_un 1, o_binL 2, o_ll 5, o_binL 1, o_il 3, o_un 1, o_binL 2, o_L (L 16), o_call 244, o_binL 0, o_ll 7, o_il 4, o_un 1, o_binL 2, o_L (L 16), o_call 244, o_binL 1, o_lst 7, o_ll 5, o_ll 7, o_binL 0, o_lst 5, o_iinc 9 (J 1), o_goto 3] := rfl
theorem k298_4 : a_bl 298 4 = [o_ll 5, o_un 2, o_ret 1] := rfl
theorem k298_r : a_rt 298 = (some .int) := rfl
theorem k298_s {E : AEn} {hi : AHi} {hr : AHr} {n : Nat} {Q : ARs → Prop} (x0 : Nat) (x1 : Int32) (x2 : Int32) (x3 : Int32) (x4 : Int32) : Sp E 298 [.ref x0, .int x1, .int x2, .int x3, .int x4] hi hr n Q ↔ Tm E 298 (a_bl 298 0) [.ref x0, .int x1, .int x2, .int x3, .int x4, a_mk, a_mk, a_mk, a_mk, a_mk] [] hi hr n Q := Iff.rfl
theorem K298 : (type_of% k298_0) ∧ (type_of% k298_1) ∧ (type_of% k298_2) ∧ (type_of% k298_4) ∧ (type_of% k298_r) ∧ (type_of% @k298_s) := ⟨k298_0, k298_1, k298_2, k298_4, k298_r, @k298_s⟩
theorem c298 {m : Nat} {is : List AOp} {ls st : List Value} {E : AEn} {hi : AHi} {hr : AHr} {n : Nat} {Q : ARs → Prop} (x0 : Nat) (x1 : Int32) (x2 : Int32) (x3 : Int32) (x4 : Int32) : Tm E m (o_call 298 :: is) ls (.int x4 :: .int x3 :: .int x2 :: .int x1 :: .ref x0 :: st) hi hr n Q ↔ (a_kd x0 = 11 ∧ x0 < n ∧ st.length ≤ 4) ∧ Sp E 298 [.ref x0, .int x1, .int x2, .int x3, .int x4] hi hr n (fun r => Tm E m is ls (r.1.toList ++ st) r.2.1 r.2.2.1 r.2.2.2 Q) := T_cI [.int x1, .int x2, .int x3, .int x4] rfl rfl rfl rfl
/-! CartoonHouseModel.language()I -/
theorem k299_0 : a_bl 299 0 = [o_al 0, o_call 217, o_I (J 0), o_is 1, o_ft 1] := rfl
theorem k299_1 : a_bl 299 1 = [o_il 1, o_I (J 26), o_ic 3 2, o_al 0, o_getR 11 64, o_il 1, o_al 0, o_getR 11 63, o_il 1, o_iald, o_iast, o_iinc 1 (J 1), o_goto 1] := rfl
theorem k299_2 : a_bl 299 2 = [o_I (J 0), o_is 1, o_I (J 1), o_is 2, o_ft 3] := rfl
theorem k299_3 : a_bl 299 3 = [o_al 0, o_call 221, o_if 0 13, o_il 2, o_if 0 13, o_al 0, o_getI 11 4, o_is 3, o_al 0, o_call 222, o_call 300, o_if 1 4, o_al 0, o_al 0, o_getI 11 4, o_call 224, o_ft 4] := rfl
theorem k299_4 : a_bl 299 4 = [o_al 0, o_call 222, o_call 300, o_if 0 5, o_al 0, o_dup, o_getI 11 4, o_I (J 1), o_bin 0, o_putI 11 4, o_goto 4] := rfl
theorem k299_5 : a_bl 299 5 = [o_al 0, o_getI 11 4, o_is 4, o_al 0, o_I (J 61), o_call 225, o_al 0, o_call 221, o_if 0 6, o_al 0, o_call 222, o_I (J 48), o_I (J 55), o_call 219, o_if 1 6, o_al 0, o_al 0, o_getI 11 4, o_call 224, o_ft 6] := rfl
theorem k299_6 : a_bl 299 6 = [o_il 3, o_is 5, o_ft 7] := rfl
theorem k299_7 : a_bl 299 7 = [o_il 5, o_il 4, o_ic 3 8, o_al 0, o_call 221, o_if 0 8, o_al 0, o_getR 11 64, o_al 0, o_getR 11 1, o_il 5, o_iald, o_I (J 97), o_bin 1, o_al 0, o_call 222, o_I (J 48), o_bin 1, o_iast, o_iinc 5 (J 1), o_goto 7] := rfl
theorem k299_8 : a_bl 299 8 = [o_al 0, o_call 221, o_if 0 9, o_al 0, o_dup, o_getI 11 4, o_I (J 1), o_bin 0, o_putI 11 4, o_ft 9] := rfl
theorem k299_9 : a_bl 299 9 = [o_iinc 1 (J 1), o_al 0, o_getI 11 4, o_al 0, o_getI 11 3, o_ic 3 10, o_I (J 1), o_goto 11] := rfl
theorem k299_10 : a_bl 299 10 = [o_I (J 0), o_ft 11] := rfl
theorem k299_11 : a_bl 299 11 = [o_is 2, o_il 2, o_if 0 12, o_al 0, o_I (J 32), o_call 225, o_ft 12] := rfl
theorem k299_12 : a_bl 299 12 = [o_goto 3] := rfl
theorem k299_13 : a_bl 299 13 = [o_al 0, o_call 221, o_if 1 14, o_al 0, o_call 226, o_ret 1] := rfl
theorem k299_14 : a_bl 299 14 = [o_I (J 0), o_is 3, o_ft 15] := rfl
theorem k299_15 : a_bl 299 15 = [o_il 3, o_I (J 26), o_ic 3 16, o_al 0, o_getR 11 63, o_il 3, o_al 0, o_getR 11 64, o_il 3, o_iald, o_iast, o_iinc 3 (J 1), o_goto 15] := rfl
theorem k299_16 : a_bl 299 16 = [o_il 1, o_ret 1] := rfl
theorem k299_r : a_rt 299 = (some .int) := rfl
theorem k299_s {E : AEn} {hi : AHi} {hr : AHr} {n : Nat} {Q : ARs → Prop} (x0 : Nat) : Sp E 299 [.ref x0] hi hr n Q ↔ Tm E 299 (a_bl 299 0) [.ref x0, a_mk, a_mk, a_mk, a_mk, a_mk] [] hi hr n Q := Iff.rfl
theorem K299 : (type_of% k299_0) ∧ (type_of% k299_2) ∧ (type_of% k299_5) ∧ (type_of% k299_6) ∧ (type_of% k299_8) ∧ (type_of% k299_9) ∧ (type_of% k299_10) ∧ (type_of% k299_11) ∧ (type_of% k299_12) ∧ (type_of% k299_13) ∧ (type_of% k299_14) ∧ (type_of% k299_16) ∧ (type_of% k299_r) ∧ (type_of% @k299_s) := ⟨k299_0, k299_2, k299_5, k299_6, k299_8, k299_9, k299_10, k299_11, k299_12, k299_13, k299_14, k299_16, k299_r, @k299_s⟩
theorem c299 {m : Nat} {is : List AOp} {ls st : List Value} {E : AEn} {hi : AHi} {hr : AHr} {n : Nat} {Q : ARs → Prop} (x0 : Nat) : Tm E m (o_call 299 :: is) ls (.ref x0 :: st) hi hr n Q ↔ (a_kd x0 = 11 ∧ x0 < n ∧ st.length ≤ 4) ∧ Sp E 299 [.ref x0] hi hr n (fun r => Tm E m is ls (r.1.toList ++ st) r.2.1 r.2.2.1 r.2.2.2 Q) := T_cI [] rfl rfl rfl rfl
