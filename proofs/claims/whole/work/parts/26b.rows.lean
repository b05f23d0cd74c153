/-! Rows of the blocks, by program (wip/whole/gen/emit_rows.py) -/
/-! CartoonHouse$Layer.readItem(LCartoonHouse$Bytes;)V -/
theorem k60_0 : a_bl 60 0 = [o_al 1, o_getI 1 2, o_is 2, o_al 1, o_I (J 45), o_call 23, o_if 0 1, o_I (J (-1)), o_goto 2] := rfl
theorem k60_1 : a_bl 60 1 = [o_al 1, o_I (J 0), o_I (J 15), o_call 14, o_ft 2] := rfl
theorem k60_2 : a_bl 60 2 = [o_is 3, o_al 1, o_I (J 42), o_call 23, o_if 0 3, o_al 1, o_I (J 1), o_I (J 99), o_call 14, o_goto 4] := rfl
theorem k60_3 : a_bl 60 3 = [o_I (J 1), o_ft 4] := rfl
theorem k60_4 : a_bl 60 4 = [o_is 4, o_al 0, o_getI 5 3, o_il 4, o_bin 0, o_I (J 120), o_ic 5 5, o_al 1, o_il 2, o_call 18, o_ft 5] := rfl
theorem k60_5 : a_bl 60 5 = [o_I (J 0), o_is 5, o_ft 6] := rfl
theorem k60_6 : a_bl 60 6 = [o_il 5, o_il 4, o_ic 3 7, o_al 1, o_call 16, o_if 0 7, o_al 0, o_getR 5 2, o_al 0, o_getI 5 3, o_il 3, o_iast, o_al 0, o_dup, o_getI 5 3, o_I (J 1), o_bin 0, o_putI 5 3, o_iinc 5 (J 1), o_goto 6] := rfl
theorem k60_7 : a_bl 60 7 = [o_ret 0] := rfl
theorem k60_r : a_rt 60 = none := rfl
theorem k60_s {E : AEn} {hi : AHi} {hr : AHr} {n : Nat} {Q : ARs → Prop} (x0 : Nat) (x1 : Nat) : Sp E 60 [.ref x0, .ref x1] hi hr n Q ↔ Tm E 60 (a_bl 60 0) [.ref x0, .ref x1, a_mk, a_mk, a_mk, a_mk] [] hi hr n Q := Iff.rfl
theorem K60 : (type_of% k60_0) ∧ (type_of% k60_1) ∧ (type_of% k60_2) ∧ (type_of% k60_3) ∧ (type_of% k60_4) ∧ (type_of% k60_5) ∧ (type_of% k60_7) ∧ (type_of% k60_r) ∧ (type_of% @k60_s) := ⟨k60_0, k60_1, k60_2, k60_3, k60_4, k60_5, k60_7, k60_r, @k60_s⟩
theorem c60 {m : Nat} {is : List AOp} {ls st : List Value} {E : AEn} {hi : AHi} {hr : AHr} {n : Nat} {Q : ARs → Prop} (x0 : Nat) (x1 : Nat) : Tm E m (o_call 60 :: is) ls (.ref x1 :: .ref x0 :: st) hi hr n Q ↔ (a_kd x0 = 5 ∧ x0 < n ∧ st.length ≤ 4) ∧ Sp E 60 [.ref x0, .ref x1] hi hr n (fun r => Tm E m is ls (r.1.toList ++ st) r.2.1 r.2.2.1 r.2.2.2 Q) := T_cI [.ref x1] rfl rfl rfl rfl
/-! CartoonHouse$Layer.keepDraft()V -/
theorem k61_0 : a_bl 61 0 = [o_al 0, o_getR 5 2, o_I (J 0), o_al 0, o_getR 5 0, o_I (J 0), o_al 0, o_getI 5 3, o_cp, o_al 0, o_al 0, o_getI 5 3, o_putI 5 1, o_ret 0] := rfl
theorem k61_r : a_rt 61 = none := rfl
theorem k61_s {E : AEn} {hi : AHi} {hr : AHr} {n : Nat} {Q : ARs → Prop} (x0 : Nat) : Sp E 61 [.ref x0] hi hr n Q ↔ Tm E 61 (a_bl 61 0) [.ref x0] [] hi hr n Q := Iff.rfl
theorem K61 : (type_of% k61_0) ∧ (type_of% k61_r) ∧ (type_of% @k61_s) := ⟨k61_0, k61_r, @k61_s⟩
theorem c61 {m : Nat} {is : List AOp} {ls st : List Value} {E : AEn} {hi : AHi} {hr : AHr} {n : Nat} {Q : ARs → Prop} (x0 : Nat) : Tm E m (o_call 61 :: is) ls (.ref x0 :: st) hi hr n Q ↔ (a_kd x0 = 5 ∧ x0 < n ∧ st.length ≤ 4) ∧ Sp E 61 [.ref x0] hi hr n (fun r => Tm E m is ls (r.1.toList ++ st) r.2.1 r.2.2.1 r.2.2.2 Q) := T_cI [] rfl rfl rfl rfl
/-! CartoonHouse$Layer.drawingAt(I)I -/
theorem k62_0 : a_bl 62 0 = [o_il 1, o_if 2 1, o_il 1, o_al 0, o_getI 5 1, o_ic 3 1, o_al 0, o_getR 5 0, o_il 1, o_iald, o_goto 2] := rfl
theorem k62_1 : a_bl 62 1 = [o_I (J (-1)), o_ft 2] := rfl
theorem k62_2 : a_bl 62 2 = [o_ret 1] := rfl
theorem k62_r : a_rt 62 = (some .int) := rfl
theorem k62_s {E : AEn} {hi : AHi} {hr : AHr} {n : Nat} {Q : ARs → Prop} (x0 : Nat) (x1 : Int32) : Sp E 62 [.ref x0, .int x1] hi hr n Q ↔ Tm E 62 (a_bl 62 0) [.ref x0, .int x1] [] hi hr n Q := Iff.rfl
theorem K62 : (type_of% k62_0) ∧ (type_of% k62_1) ∧ (type_of% k62_2) ∧ (type_of% k62_r) ∧ (type_of% @k62_s) := ⟨k62_0, k62_1, k62_2, k62_r, @k62_s⟩
theorem c62 {m : Nat} {is : List AOp} {ls st : List Value} {E : AEn} {hi : AHi} {hr : AHr} {n : Nat} {Q : ARs → Prop} (x0 : Nat) (x1 : Int32) : Tm E m (o_call 62 :: is) ls (.int x1 :: .ref x0 :: st) hi hr n Q ↔ (a_kd x0 = 5 ∧ x0 < n ∧ st.length ≤ 4) ∧ Sp E 62 [.ref x0, .int x1] hi hr n (fun r => Tm E m is ls (r.1.toList ++ st) r.2.1 r.2.2.1 r.2.2.2 Q) := T_cI [.int x1] rfl rfl rfl rfl
/-! CartoonHouse$Layer.stretchBy(II)I -/
theorem k63_0 : a_bl 63 0 = [o_il 1, o_if 5 1, o_il 2, o_if 4 2, o_ft 1] := rfl
theorem k63_1 : a_bl 63 1 = [o_I (J (-1)), o_ret 1] := rfl
theorem k63_2 : a_bl 63 2 = [o_al 0, o_getI 5 1, o_il 1, o_bin 2, o_il 2, o_bin 9, o_is 3, o_il 3, o_I (J 120), o_ic 5 3, o_I (J (-4)), o_ret 1] := rfl
theorem k63_3 : a_bl 63 3 = [o_I (J 0), o_is 4, o_ft 4] := rfl
theorem k63_4 : a_bl 63 4 = [o_il 4, o_il 3, o_ic 3 5, o_al 0, o_getR 5 2, o_il 4, o_al 0, o_il 4, o_il 2, o_bin 2, o_il 1, o_bin 9, o_call 62, o_iast, o_iinc 4 (J 1), o_goto 4] := rfl
theorem k63_5 : a_bl 63 5 = [o_al 0, o_il 3, o_putI 5 3, o_al 0, o_call 61, o_al 0, o_getI 5 1, o_ret 1] := rfl
theorem k63_r : a_rt 63 = (some .int) := rfl
theorem k63_s {E : AEn} {hi : AHi} {hr : AHr} {n : Nat} {Q : ARs → Prop} (x0 : Nat) (x1 : Int32) (x2 : Int32) : Sp E 63 [.ref x0, .int x1, .int x2] hi hr n Q ↔ Tm E 63 (a_bl 63 0) [.ref x0, .int x1, .int x2, a_mk, a_mk] [] hi hr n Q := Iff.rfl
theorem K63 : (type_of% k63_0) ∧ (type_of% k63_1) ∧ (type_of% k63_2) ∧ (type_of% k63_3) ∧ (type_of% k63_5) ∧ (type_of% k63_r) ∧ (type_of% @k63_s) := ⟨k63_0, k63_1, k63_2, k63_3, k63_5, k63_r, @k63_s⟩
theorem c63 {m : Nat} {is : List AOp} {ls st : List Value} {E : AEn} {hi : AHi} {hr : AHr} {n : Nat} {Q : ARs → Prop} (x0 : Nat) (x1 : Int32) (x2 : Int32) : Tm E m (o_call 63 :: is) ls (.int x2 :: .int x1 :: .ref x0 :: st) hi hr n Q ↔ (a_kd x0 = 5 ∧ x0 < n ∧ st.length ≤ 4) ∧ Sp E 63 [.ref x0, .int x1, .int x2] hi hr n (fun r => Tm E m is ls (r.1.toList ++ st) r.2.1 r.2.2.1 r.2.2.2 Q) := T_cI [.int x1, .int x2] rfl rfl rfl rfl
/-! CartoonHouse$Layer.writeTo(LCartoonHouse$Bytes;)V -/
theorem k64_0 : a_bl 64 0 = [o_I (J 0), o_is 2, o_I (J 1), o_is 3, o_ft 1] := rfl
theorem k64_1 : a_bl 64 1 = [o_il 3, o_al 0, o_getI 5 1, o_ic 4 4, o_il 3, o_al 0, o_getI 5 1, o_ic 0 2, o_al 0, o_getR 5 0, o_il 3, o_iald, o_al 0, o_getR 5 0, o_il 2, o_iald, o_ic 1 2, o_il 3, o_il 2, o_bin 1, o_I (J 99), o_ic 1 3, o_ft 2] := rfl
theorem k64_2 : a_bl 64 2 = [o_al 1, o_al 0, o_getR 5 0, o_il 2, o_iald, o_il 3, o_il 2, o_bin 1, o_call 65, o_il 3, o_is 2, o_ft 3] := rfl
theorem k64_3 : a_bl 64 3 = [o_iinc 3 (J 1), o_goto 1] := rfl
theorem k64_4 : a_bl 64 4 = [o_ret 0] := rfl
theorem k64_r : a_rt 64 = none := rfl
theorem k64_s {E : AEn} {hi : AHi} {hr : AHr} {n : Nat} {Q : ARs → Prop} (x0 : Nat) (x1 : Nat) : Sp E 64 [.ref x0, .ref x1] hi hr n Q ↔ Tm E 64 (a_bl 64 0) [.ref x0, .ref x1, a_mk, a_mk] [] hi hr n Q := Iff.rfl
theorem K64 : (type_of% k64_0) ∧ (type_of% k64_2) ∧ (type_of% k64_3) ∧ (type_of% k64_4) ∧ (type_of% k64_r) ∧ (type_of% @k64_s) := ⟨k64_0, k64_2, k64_3, k64_4, k64_r, @k64_s⟩
theorem c64 {m : Nat} {is : List AOp} {ls st : List Value} {E : AEn} {hi : AHi} {hr : AHr} {n : Nat} {Q : ARs → Prop} (x0 : Nat) (x1 : Nat) : Tm E m (o_call 64 :: is) ls (.ref x1 :: .ref x0 :: st) hi hr n Q ↔ (a_kd x0 = 5 ∧ x0 < n ∧ st.length ≤ 4) ∧ Sp E 64 [.ref x0, .ref x1] hi hr n (fun r => Tm E m is ls (r.1.toList ++ st) r.2.1 r.2.2.1 r.2.2.2 Q) := T_cI [.ref x1] rfl rfl rfl rfl
/-! CartoonHouse$Layer.writeItem(LCartoonHouse$Bytes;II)V -/
theorem k65_0 : a_bl 65 0 = [o_al 0, o_getI 1 1, o_if 5 1, o_al 0, o_I (J 32), o_call 11, o_ft 1] := rfl
theorem k65_1 : a_bl 65 1 = [o_il 1, o_I (J (-1)), o_ic 1 2, o_al 0, o_I (J 45), o_call 11, o_goto 3] := rfl
theorem k65_2 : a_bl 65 2 = [o_al 0, o_il 1, o_call 26, o_ft 3] := rfl
theorem k65_3 : a_bl 65 3 = [o_il 2, o_I (J 1), o_ic 5 4, o_al 0, o_I (J 42), o_call 11, o_al 0, o_il 2, o_call 26, o_ft 4] := rfl
theorem k65_4 : a_bl 65 4 = [o_ret 0] := rfl
theorem k65_r : a_rt 65 = none := rfl
theorem k65_s {E : AEn} {hi : AHi} {hr : AHr} {n : Nat} {Q : ARs → Prop} (x0 : Nat) (x1 : Int32) (x2 : Int32) : Sp E 65 [.ref x0, .int x1, .int x2] hi hr n Q ↔ Tm E 65 (a_bl 65 0) [.ref x0, .int x1, .int x2] [] hi hr n Q := Iff.rfl
theorem K65 : (type_of% k65_0) ∧ (type_of% k65_1) ∧ (type_of% k65_2) ∧ (type_of% k65_3) ∧ (type_of% k65_4) ∧ (type_of% k65_r) ∧ (type_of% @k65_s) := ⟨k65_0, k65_1, k65_2, k65_3, k65_4, k65_r, @k65_s⟩
theorem c65 {m : Nat} {is : List AOp} {ls st : List Value} {E : AEn} {hi : AHi} {hr : AHr} {n : Nat} {Q : ARs → Prop} (x0 : Nat) (x1 : Int32) (x2 : Int32) : Tm E m (o_call 65 :: is) ls (.int x2 :: .int x1 :: .ref x0 :: st) hi hr n Q ↔ st.length ≤ 4 ∧ Sp E 65 [.ref x0, .int x1, .int x2] hi hr n (fun r => Tm E m is ls (r.1.toList ++ st) r.2.1 r.2.2.1 r.2.2.2 Q) := T_cS [.ref x0, .int x1, .int x2] rfl rfl
/-! CartoonHouse$Layer.beatOf(I)I -/
theorem k66_0 : a_bl 66 0 = [o_al 0, o_getI 5 6, o_if 5 1, o_il 1, o_al 0, o_getI 5 6, o_bin 9, o_goto 2] := rfl
theorem k66_1 : a_bl 66 1 = [o_I (J 0), o_ft 2] := rfl
theorem k66_2 : a_bl 66 2 = [o_ret 1] := rfl
theorem k66_r : a_rt 66 = (some .int) := rfl
theorem k66_s {E : AEn} {hi : AHi} {hr : AHr} {n : Nat} {Q : ARs → Prop} (x0 : Nat) (x1 : Int32) : Sp E 66 [.ref x0, .int x1] hi hr n Q ↔ Tm E 66 (a_bl 66 0) [.ref x0, .int x1] [] hi hr n Q := Iff.rfl
theorem K66 : (type_of% k66_0) ∧ (type_of% k66_1) ∧ (type_of% k66_2) ∧ (type_of% k66_r) ∧ (type_of% @k66_s) := ⟨k66_0, k66_1, k66_2, k66_r, @k66_s⟩
theorem c66 {m : Nat} {is : List AOp} {ls st : List Value} {E : AEn} {hi : AHi} {hr : AHr} {n : Nat} {Q : ARs → Prop} (x0 : Nat) (x1 : Int32) : Tm E m (o_call 66 :: is) ls (.int x1 :: .ref x0 :: st) hi hr n Q ↔ (a_kd x0 = 5 ∧ x0 < n ∧ st.length ≤ 4) ∧ Sp E 66 [.ref x0, .int x1] hi hr n (fun r => Tm E m is ls (r.1.toList ++ st) r.2.1 r.2.2.1 r.2.2.2 Q) := T_cI [.int x1] rfl rfl rfl rfl
/-! CartoonHouse$Layer.wiggleOf(IIII)I -/
theorem k67_0 : a_bl 67 0 = [o_I (J 2), o_al 0, o_getI 5 7, o_bin 2, o_I (J 1), o_bin 0, o_is 5, o_il 5, o_if 5 1, o_al 0, o_getI 5 5, o_il 1, o_il 2, o_il 3, o_il 4, o_call 199, o_I (J 8), o_bin 8, o_il 5, o_bin 10, o_al 0, o_getI 5 7, o_bin 1, o_goto 2] := rfl
theorem k67_1 : a_bl 67 1 = [o_I (J 0), o_ft 2] := rfl
theorem k67_2 : a_bl 67 2 = [o_ret 1] := rfl
theorem k67_r : a_rt 67 = (some .int) := rfl
theorem k67_s {E : AEn} {hi : AHi} {hr : AHr} {n : Nat} {Q : ARs → Prop} (x0 : Nat) (x1 : Int32) (x2 : Int32) (x3 : Int32) (x4 : Int32) : Sp E 67 [.ref x0, .int x1, .int x2, .int x3, .int x4] hi hr n Q ↔ Tm E 67 (a_bl 67 0) [.ref x0, .int x1, .int x2, .int x3, .int x4, a_mk] [] hi hr n Q := Iff.rfl
theorem K67 : (type_of% k67_0) ∧ (type_of% k67_1) ∧ (type_of% k67_2) ∧ (type_of% k67_r) ∧ (type_of% @k67_s) := ⟨k67_0, k67_1, k67_2, k67_r, @k67_s⟩
theorem c67 {m : Nat} {is : List AOp} {ls st : List Value} {E : AEn} {hi : AHi} {hr : AHr} {n : Nat} {Q : ARs → Prop} (x0 : Nat) (x1 : Int32) (x2 : Int32) (x3 : Int32) (x4 : Int32) : Tm E m (o_call 67 :: is) ls (.int x4 :: .int x3 :: .int x2 :: .int x1 :: .ref x0 :: st) hi hr n Q ↔ (a_kd x0 = 5 ∧ x0 < n ∧ st.length ≤ 4) ∧ Sp E 67 [.ref x0, .int x1, .int x2, .int x3, .int x4] hi hr n (fun r => Tm E m is ls (r.1.toList ++ st) r.2.1 r.2.2.1 r.2.2.2 Q) := T_cI [.int x1, .int x2, .int x3, .int x4] rfl rfl rfl rfl
/-! CartoonHouse$Lips.<init>()V -/
theorem k68_0 : a_bl 68 0 = [o_al 0, o_obj, o_al 0, o_I (J 26), o_newa 20, o_putR 6 0, o_al 0, o_I (J 26), o_newa 20, o_putR 6 1, o_al 0, o_I (J 120), o_newa 20, o_putR 6 2, o_al 0, o_I (J 120), o_newa 20, o_putR 6 3, o_al 0, o_I (J 120), o_newa 20, o_putR 6 5, o_al 0, o_I (J 120), o_newa 20, o_putR 6 6, o_ret 0] := rfl
theorem k68_r : a_rt 68 = none := rfl
theorem k68_s {E : AEn} {hi : AHi} {hr : AHr} {n : Nat} {Q : ARs → Prop} (x0 : Nat) : Sp E 68 [.ref x0] hi hr n Q ↔ Tm E 68 (a_bl 68 0) [.ref x0] [] hi hr n Q := Iff.rfl
theorem K68 : (type_of% k68_0) ∧ (type_of% k68_r) ∧ (type_of% @k68_s) := ⟨k68_0, k68_r, @k68_s⟩
theorem c68 {m : Nat} {is : List AOp} {ls st : List Value} {E : AEn} {hi : AHi} {hr : AHr} {n : Nat} {Q : ARs → Prop} (x0 : Nat) : Tm E m (o_call 68 :: is) ls (.ref x0 :: st) hi hr n Q ↔ (a_kd x0 = 6 ∧ x0 < n ∧ st.length ≤ 4) ∧ Sp E 68 [.ref x0] hi hr n (fun r => Tm E m is ls (r.1.toList ++ st) r.2.1 r.2.2.1 r.2.2.2 Q) := T_cI [] rfl rfl rfl rfl
/-! CartoonHouse$Lips.readLanguage(LCartoonHouse$Bytes;)I -/
theorem k69_0 : a_bl 69 0 = [o_al 1, o_call 13, o_al 0, o_getR 6 0, o_I (J 0), o_al 0, o_getR 6 1, o_I (J 0), o_I (J 26), o_cp, o_I (J 0), o_is 2, o_I (J 1), o_is 3, o_I (J 0), o_is 4, o_ft 1] := rfl
theorem k69_1 : a_bl 69 1 = [o_il 3, o_if 0 2, o_il 4, o_I (J 1600), o_ic 3 2, o_al 0, o_al 1, o_call 70, o_iinc 2 (J 1), o_al 1, o_call 20, o_is 3, o_iinc 4 (J 1), o_goto 1] := rfl
theorem k69_2 : a_bl 69 2 = [o_al 1, o_call 16, o_if 1 3, o_al 1, o_call 24, o_ret 1] := rfl
theorem k69_3 : a_bl 69 3 = [o_al 0, o_getR 6 1, o_I (J 0), o_al 0, o_getR 6 0, o_I (J 0), o_I (J 26), o_cp, o_il 2, o_ret 1] := rfl
theorem k69_r : a_rt 69 = (some .int) := rfl
theorem k69_s {E : AEn} {hi : AHi} {hr : AHr} {n : Nat} {Q : ARs → Prop} (x0 : Nat) (x1 : Nat) : Sp E 69 [.ref x0, .ref x1] hi hr n Q ↔ Tm E 69 (a_bl 69 0) [.ref x0, .ref x1, a_mk, a_mk, a_mk] [] hi hr n Q := Iff.rfl
theorem K69 : (type_of% k69_0) ∧ (type_of% k69_2) ∧ (type_of% k69_3) ∧ (type_of% k69_r) ∧ (type_of% @k69_s) := ⟨k69_0, k69_2, k69_3, k69_r, @k69_s⟩
theorem c69 {m : Nat} {is : List AOp} {ls st : List Value} {E : AEn} {hi : AHi} {hr : AHr} {n : Nat} {Q : ARs → Prop} (x0 : Nat) (x1 : Nat) : Tm E m (o_call 69 :: is) ls (.ref x1 :: .ref x0 :: st) hi hr n Q ↔ (a_kd x0 = 6 ∧ x0 < n ∧ st.length ≤ 4) ∧ Sp E 69 [.ref x0, .ref x1] hi hr n (fun r => Tm E m is ls (r.1.toList ++ st) r.2.1 r.2.2.1 r.2.2.2 Q) := T_cI [.ref x1] rfl rfl rfl rfl
/-! CartoonHouse$Lips.readGroup(LCartoonHouse$Bytes;)V -/
theorem k70_0 : a_bl 70 0 = [o_al 1, o_getI 1 2, o_is 2, o_I (J 0), o_is 3, o_ft 1] := rfl
theorem k70_1 : a_bl 70 1 = [o_il 3, o_I (J 1600), o_ic 3 2, o_al 1, o_I (J 97), o_I (J 122), o_call 17, o_if 0 2, o_al 1, o_dup, o_getI 1 2, o_I (J 1), o_bin 0, o_putI 1 2, o_iinc 3 (J 1), o_goto 1] := rfl
theorem k70_2 : a_bl 70 2 = [o_al 1, o_getI 1 2, o_is 3, o_il 3, o_il 2, o_ic 1 3, o_al 1, o_il 2, o_call 18, o_ft 3] := rfl
theorem k70_3 : a_bl 70 3 = [o_al 1, o_I (J 61), o_call 22, o_al 1, o_call 19, o_I (J 48), o_bin 1, o_is 4, o_al 1, o_I (J 48), o_I (J 55), o_call 17, o_if 1 4, o_al 1, o_al 1, o_getI 1 2, o_call 18, o_ft 4] := rfl
theorem k70_4 : a_bl 70 4 = [o_il 2, o_is 5, o_ft 5] := rfl
theorem k70_5 : a_bl 70 5 = [o_il 5, o_il 3, o_ic 3 6, o_al 1, o_call 16, o_if 0 6, o_al 0, o_getR 6 1, o_al 1, o_il 5, o_call 12, o_I (J 97), o_bin 1, o_il 4, o_iast, o_iinc 5 (J 1), o_goto 5] := rfl
theorem k70_6 : a_bl 70 6 = [o_al 1, o_dup, o_getI 1 2, o_I (J 1), o_bin 0, o_putI 1 2, o_ret 0] := rfl
theorem k70_r : a_rt 70 = none := rfl
theorem k70_s {E : AEn} {hi : AHi} {hr : AHr} {n : Nat} {Q : ARs → Prop} (x0 : Nat) (x1 : Nat) : Sp E 70 [.ref x0, .ref x1] hi hr n Q ↔ Tm E 70 (a_bl 70 0) [.ref x0, .ref x1, a_mk, a_mk, a_mk, a_mk] [] hi hr n Q := Iff.rfl
theorem K70 : (type_of% k70_0) ∧ (type_of% k70_2) ∧ (type_of% k70_3) ∧ (type_of% k70_4) ∧ (type_of% k70_6) ∧ (type_of% k70_r) ∧ (type_of% @k70_s) := ⟨k70_0, k70_2, k70_3, k70_4, k70_6, k70_r, @k70_s⟩
theorem c70 {m : Nat} {is : List AOp} {ls st : List Value} {E : AEn} {hi : AHi} {hr : AHr} {n : Nat} {Q : ARs → Prop} (x0 : Nat) (x1 : Nat) : Tm E m (o_call 70 :: is) ls (.ref x1 :: .ref x0 :: st) hi hr n Q ↔ (a_kd x0 = 6 ∧ x0 < n ∧ st.length ≤ 4) ∧ Sp E 70 [.ref x0, .ref x1] hi hr n (fun r => Tm E m is ls (r.1.toList ++ st) r.2.1 r.2.2.1 r.2.2.2 Q) := T_cI [.ref x1] rfl rfl rfl rfl
/-! CartoonHouse$Lips.readSpeech(LCartoonHouse$Bytes;)I -/
theorem k71_0 : a_bl 71 0 = [o_al 1, o_call 13, o_I (J 0), o_is 2, o_I (J 0), o_is 3, o_I (J 1), o_is 4, o_I (J 0), o_is 5, o_ft 1] := rfl
theorem k71_1 : a_bl 71 1 = [o_il 4, o_if 0 4, o_il 5, o_I (J 121), o_ic 3 4, o_al 1, o_getI 1 2, o_is 6, o_al 0, o_al 1, o_call 72, o_is 7, o_al 1, o_I (J 1), o_I (J 99), o_call 14, o_is 8, o_il 3, o_il 8, o_bin 0, o_is 3, o_il 3, o_I (J 120), o_ic 5 2, o_al 1, o_il 6, o_call 18, o_ft 2] := rfl
theorem k71_2 : a_bl 71 2 = [o_al 1, o_call 16, o_if 0 3, o_al 0, o_getR 6 5, o_il 2, o_il 7, o_iast, o_al 0, o_getR 6 6, o_il 2, o_il 8, o_iast, o_iinc 2 (J 1), o_ft 3] := rfl
theorem k71_3 : a_bl 71 3 = [o_al 1, o_call 20, o_is 4, o_iinc 5 (J 1), o_goto 1] := rfl
theorem k71_4 : a_bl 71 4 = [o_al 1, o_call 16, o_if 1 5, o_al 1, o_call 24, o_ret 1] := rfl
theorem k71_5 : a_bl 71 5 = [o_al 0, o_getR 6 5, o_I (J 0), o_al 0, o_getR 6 2, o_I (J 0), o_il 2, o_cp, o_al 0, o_getR 6 6, o_I (J 0), o_al 0, o_getR 6 3, o_I (J 0), o_il 2, o_cp, o_al 0, o_il 2, o_putI 6 4, o_al 0, o_call 73, o_al 0, o_getI 6 4, o_ret 1] := rfl
theorem k71_r : a_rt 71 = (some .int) := rfl
theorem k71_s {E : AEn} {hi : AHi} {hr : AHr} {n : Nat} {Q : ARs → Prop} (x0 : Nat) (x1 : Nat) : Sp E 71 [.ref x0, .ref x1] hi hr n Q ↔ Tm E 71 (a_bl 71 0) [.ref x0, .ref x1, a_mk, a_mk, a_mk, a_mk, a_mk, a_mk, a_mk] [] hi hr n Q := Iff.rfl
theorem K71 : (type_of% k71_0) ∧ (type_of% k71_2) ∧ (type_of% k71_3) ∧ (type_of% k71_4) ∧ (type_of% k71_5) ∧ (type_of% k71_r) ∧ (type_of% @k71_s) := ⟨k71_0, k71_2, k71_3, k71_4, k71_5, k71_r, @k71_s⟩
theorem c71 {m : Nat} {is : List AOp} {ls st : List Value} {E : AEn} {hi : AHi} {hr : AHr} {n : Nat} {Q : ARs → Prop} (x0 : Nat) (x1 : Nat) : Tm E m (o_call 71 :: is) ls (.ref x1 :: .ref x0 :: st) hi hr n Q ↔ (a_kd x0 = 6 ∧ x0 < n ∧ st.length ≤ 4) ∧ Sp E 71 [.ref x0, .ref x1] hi hr n (fun r => Tm E m is ls (r.1.toList ++ st) r.2.1 r.2.2.1 r.2.2.2 Q) := T_cI [.ref x1] rfl rfl rfl rfl
/-! CartoonHouse$Lips.readSound(LCartoonHouse$Bytes;)I -/
theorem k72_0 : a_bl 72 0 = [o_al 1, o_I (J 46), o_call 23, o_if 0 1, o_I (J 0), o_ret 1] := rfl
theorem k72_1 : a_bl 72 1 = [o_al 1, o_call 16, o_if 0 2, o_al 1, o_I (J 97), o_I (J 122), o_call 17, o_if 1 3, o_ft 2] := rfl
theorem k72_2 : a_bl 72 2 = [o_al 1, o_al 1, o_getI 1 2, o_call 18, o_I (J 0), o_ret 1] := rfl
theorem k72_3 : a_bl 72 3 = [o_al 0, o_getR 6 0, o_al 1, o_call 19, o_I (J 97), o_bin 1, o_iald, o_is 2, o_al 1, o_dup, o_getI 1 2, o_I (J 1), o_bin 0, o_putI 1 2, o_il 2, o_ret 1] := rfl
theorem k72_r : a_rt 72 = (some .int) := rfl
theorem k72_s {E : AEn} {hi : AHi} {hr : AHr} {n : Nat} {Q : ARs → Prop} (x0 : Nat) (x1 : Nat) : Sp E 72 [.ref x0, .ref x1] hi hr n Q ↔ Tm E 72 (a_bl 72 0) [.ref x0, .ref x1, a_mk] [] hi hr n Q := Iff.rfl
theorem K72 : (type_of% k72_0) ∧ (type_of% k72_1) ∧ (type_of% k72_2) ∧ (type_of% k72_3) ∧ (type_of% k72_r) ∧ (type_of% @k72_s) := ⟨k72_0, k72_1, k72_2, k72_3, k72_r, @k72_s⟩
theorem c72 {m : Nat} {is : List AOp} {ls st : List Value} {E : AEn} {hi : AHi} {hr : AHr} {n : Nat} {Q : ARs → Prop} (x0 : Nat) (x1 : Nat) : Tm E m (o_call 72 :: is) ls (.ref x1 :: .ref x0 :: st) hi hr n Q ↔ (a_kd x0 = 6 ∧ x0 < n ∧ st.length ≤ 4) ∧ Sp E 72 [.ref x0, .ref x1] hi hr n (fun r => Tm E m is ls (r.1.toList ++ st) r.2.1 r.2.2.1 r.2.2.2 Q) := T_cI [.ref x1] rfl rfl rfl rfl
/-! CartoonHouse$Lips.smooth()V -/
theorem k73_0 : a_bl 73 0 = [o_al 0, o_call 74, o_I (J 0), o_is 1, o_ft 1] := rfl
theorem k73_1 : a_bl 73 1 = [o_il 1, o_I (J 120), o_ic 3 5, o_al 0, o_getI 6 4, o_I (J 2), o_ic 2 5, o_al 0, o_call 76, o_is 2, o_il 2, o_I (J (-1)), o_ic 1 2, o_goto 5] := rfl
theorem k73_2 : a_bl 73 2 = [o_al 0, o_getR 6 3, o_il 2, o_I (J 1), o_bin 0, o_al 0, o_getI 6 4, o_ic 3 3, o_il 2, o_I (J 1), o_bin 0, o_goto 4] := rfl
theorem k73_3 : a_bl 73 3 = [o_il 2, o_I (J 1), o_bin 1, o_ft 4] := rfl
theorem k73_4 : a_bl 73 4 = [o_dup2, o_iald, o_I (J 1), o_bin 0, o_iast, o_al 0, o_il 2, o_call 75, o_al 0, o_call 74, o_iinc 1 (J 1), o_goto 1] := rfl
theorem k73_5 : a_bl 73 5 = [o_ret 0] := rfl
theorem k73_r : a_rt 73 = none := rfl
theorem k73_s {E : AEn} {hi : AHi} {hr : AHr} {n : Nat} {Q : ARs → Prop} (x0 : Nat) : Sp E 73 [.ref x0] hi hr n Q ↔ Tm E 73 (a_bl 73 0) [.ref x0, a_mk, a_mk] [] hi hr n Q := Iff.rfl
theorem K73 : (type_of% k73_0) ∧ (type_of% k73_2) ∧ (type_of% k73_3) ∧ (type_of% k73_4) ∧ (type_of% k73_5) ∧ (type_of% k73_r) ∧ (type_of% @k73_s) := ⟨k73_0, k73_2, k73_3, k73_4, k73_5, k73_r, @k73_s⟩
theorem c73 {m : Nat} {is : List AOp} {ls st : List Value} {E : AEn} {hi : AHi} {hr : AHr} {n : Nat} {Q : ARs → Prop} (x0 : Nat) : Tm E m (o_call 73 :: is) ls (.ref x0 :: st) hi hr n Q ↔ (a_kd x0 = 6 ∧ x0 < n ∧ st.length ≤ 4) ∧ Sp E 73 [.ref x0] hi hr n (fun r => Tm E m is ls (r.1.toList ++ st) r.2.1 r.2.2.1 r.2.2.2 Q) := T_cI [] rfl rfl rfl rfl
/-! CartoonHouse$Lips.joinAlike()V -/
theorem k74_0 : a_bl 74 0 = [o_al 0, o_getI 6 4, o_I (J 1), o_bin 1, o_is 1, o_ft 1] := rfl
theorem k74_1 : a_bl 74 1 = [o_il 1, o_if 5 3, o_al 0, o_getR 6 2, o_il 1, o_iald, o_al 0, o_getR 6 2, o_il 1, o_I (J 1), o_bin 1, o_iald, o_ic 1 2, o_al 0, o_getR 6 3, o_il 1, o_I (J 1), o_bin 1, o_dup2, o_iald, o_al 0, o_getR 6 3, o_il 1, o_iald, o_bin 0, o_iast, o_al 0, o_il 1, o_call 75, o_ft 2] := rfl
theorem k74_2 : a_bl 74 2 = [o_iinc 1 (J (-1)), o_goto 1] := rfl
theorem k74_3 : a_bl 74 3 = [o_ret 0] := rfl
theorem k74_r : a_rt 74 = none := rfl
theorem k74_s {E : AEn} {hi : AHi} {hr : AHr} {n : Nat} {Q : ARs → Prop} (x0 : Nat) : Sp E 74 [.ref x0] hi hr n Q ↔ Tm E 74 (a_bl 74 0) [.ref x0, a_mk] [] hi hr n Q := Iff.rfl
theorem K74 : (type_of% k74_0) ∧ (type_of% k74_2) ∧ (type_of% k74_3) ∧ (type_of% k74_r) ∧ (type_of% @k74_s) := ⟨k74_0, k74_2, k74_3, k74_r, @k74_s⟩
theorem c74 {m : Nat} {is : List AOp} {ls st : List Value} {E : AEn} {hi : AHi} {hr : AHr} {n : Nat} {Q : ARs → Prop} (x0 : Nat) : Tm E m (o_call 74 :: is) ls (.ref x0 :: st) hi hr n Q ↔ (a_kd x0 = 6 ∧ x0 < n ∧ st.length ≤ 4) ∧ Sp E 74 [.ref x0] hi hr n (fun r => Tm E m is ls (r.1.toList ++ st) r.2.1 r.2.2.1 r.2.2.2 Q) := T_cI [] rfl rfl rfl rfl
/-! CartoonHouse$Lips.drop(I)V -/
theorem k75_0 : a_bl 75 0 = [o_al 0, o_getR 6 2, o_il 1, o_I (J 1), o_bin 0, o_al 0, o_getR 6 2, o_il 1, o_al 0, o_getI 6 4, o_il 1, o_bin 1, o_I (J 1), o_bin 1, o_cp, o_al 0, o_getR 6 3, o_il 1, o_I (J 1), o_bin 0, o_al 0, o_getR 6 3, o_il 1, o_al 0, o_getI 6 4, o_il 1, o_bin 1, o_I (J 1), o_bin 1, o_cp, o_al 0, o_dup, o_getI 6 4, o_I (J 1), o_bin 1, o_putI 6 4, o_ret 0] := rfl
theorem k75_r : a_rt 75 = none := rfl
theorem k75_s {E : AEn} {hi : AHi} {hr : AHr} {n : Nat} {Q : ARs → Prop} (x0 : Nat) (x1 : Int32) : Sp E 75 [.ref x0, .int x1] hi hr n Q ↔ Tm E 75 (a_bl 75 0) [.ref x0, .int x1] [] hi hr n Q := Iff.rfl
theorem K75 : (type_of% k75_0) ∧ (type_of% k75_r) ∧ (type_of% @k75_s) := ⟨k75_0, k75_r, @k75_s⟩
theorem c75 {m : Nat} {is : List AOp} {ls st : List Value} {E : AEn} {hi : AHi} {hr : AHr} {n : Nat} {Q : ARs → Prop} (x0 : Nat) (x1 : Int32) : Tm E m (o_call 75 :: is) ls (.int x1 :: .ref x0 :: st) hi hr n Q ↔ (a_kd x0 = 6 ∧ x0 < n ∧ st.length ≤ 4) ∧ Sp E 75 [.ref x0, .int x1] hi hr n (fun r => Tm E m is ls (r.1.toList ++ st) r.2.1 r.2.2.1 r.2.2.2 Q) := T_cI [.int x1] rfl rfl rfl rfl
/-! CartoonHouse$Lips.firstSingle()I -/
theorem k76_0 : a_bl 76 0 = [o_I (J 0), o_is 1, o_ft 1] := rfl
theorem k76_1 : a_bl 76 1 = [o_il 1, o_al 0, o_getI 6 4, o_ic 3 3, o_al 0, o_getR 6 3, o_il 1, o_iald, o_I (J 1), o_ic 1 2, o_il 1, o_ret 1] := rfl
theorem k76_2 : a_bl 76 2 = [o_iinc 1 (J 1), o_goto 1] := rfl
theorem k76_3 : a_bl 76 3 = [o_I (J (-1)), o_ret 1] := rfl
theorem k76_r : a_rt 76 = (some .int) := rfl
theorem k76_s {E : AEn} {hi : AHi} {hr : AHr} {n : Nat} {Q : ARs → Prop} (x0 : Nat) : Sp E 76 [.ref x0] hi hr n Q ↔ Tm E 76 (a_bl 76 0) [.ref x0, a_mk] [] hi hr n Q := Iff.rfl
theorem K76 : (type_of% k76_0) ∧ (type_of% k76_2) ∧ (type_of% k76_3) ∧ (type_of% k76_r) ∧ (type_of% @k76_s) := ⟨k76_0, k76_2, k76_3, k76_r, @k76_s⟩
theorem c76 {m : Nat} {is : List AOp} {ls st : List Value} {E : AEn} {hi : AHi} {hr : AHr} {n : Nat} {Q : ARs → Prop} (x0 : Nat) : Tm E m (o_call 76 :: is) ls (.ref x0 :: st) hi hr n Q ↔ (a_kd x0 = 6 ∧ x0 < n ∧ st.length ≤ 4) ∧ Sp E 76 [.ref x0] hi hr n (fun r => Tm E m is ls (r.1.toList ++ st) r.2.1 r.2.2.1 r.2.2.2 Q) := T_cI [] rfl rfl rfl rfl
/-! CartoonHouse$Lips.tellMouth(II)I -/
theorem k77_0 : a_bl 77 0 = [o_il 1, o_if 2 1, o_il 1, o_al 0, o_getI 6 4, o_ic 2 2, o_ft 1] := rfl
theorem k77_1 : a_bl 77 1 = [o_I (J (-1)), o_ret 1] := rfl
theorem k77_2 : a_bl 77 2 = [o_il 2, o_sw 0 6 [3, 4, 5]] := rfl
theorem k77_3 : a_bl 77 3 = [o_al 0, o_getR 6 2, o_il 1, o_iald, o_ret 1] := rfl
theorem k77_4 : a_bl 77 4 = [o_al 0, o_il 1, o_call 78, o_ret 1] := rfl
theorem k77_5 : a_bl 77 5 = [o_al 0, o_getR 6 3, o_il 1, o_iald, o_ret 1] := rfl
theorem k77_6 : a_bl 77 6 = [o_I (J (-1)), o_ret 1] := rfl
theorem k77_r : a_rt 77 = (some .int) := rfl
theorem k77_s {E : AEn} {hi : AHi} {hr : AHr} {n : Nat} {Q : ARs → Prop} (x0 : Nat) (x1 : Int32) (x2 : Int32) : Sp E 77 [.ref x0, .int x1, .int x2] hi hr n Q ↔ Tm E 77 (a_bl 77 0) [.ref x0, .int x1, .int x2] [] hi hr n Q := Iff.rfl
theorem K77 : (type_of% k77_0) ∧ (type_of% k77_1) ∧ (type_of% k77_2) ∧ (type_of% k77_3) ∧ (type_of% k77_4) ∧ (type_of% k77_5) ∧ (type_of% k77_6) ∧ (type_of% k77_r) ∧ (type_of% @k77_s) := ⟨k77_0, k77_1, k77_2, k77_3, k77_4, k77_5, k77_6, k77_r, @k77_s⟩
theorem c77 {m : Nat} {is : List AOp} {ls st : List Value} {E : AEn} {hi : AHi} {hr : AHr} {n : Nat} {Q : ARs → Prop} (x0 : Nat) (x1 : Int32) (x2 : Int32) : Tm E m (o_call 77 :: is) ls (.int x2 :: .int x1 :: .ref x0 :: st) hi hr n Q ↔ (a_kd x0 = 6 ∧ x0 < n ∧ st.length ≤ 4) ∧ Sp E 77 [.ref x0, .int x1, .int x2] hi hr n (fun r => Tm E m is ls (r.1.toList ++ st) r.2.1 r.2.2.1 r.2.2.2 Q) := T_cI [.int x1, .int x2] rfl rfl rfl rfl
/-! CartoonHouse$Lips.firstFrame(I)I -/
theorem k78_0 : a_bl 78 0 = [o_I (J 0), o_is 2, o_I (J 0), o_is 3, o_ft 1] := rfl
theorem k78_1 : a_bl 78 1 = [o_il 3, o_il 1, o_ic 3 2, o_il 2, o_al 0, o_getR 6 3, o_il 3, o_iald, o_bin 0, o_is 2, o_iinc 3 (J 1), o_goto 1] := rfl
theorem k78_2 : a_bl 78 2 = [o_il 2, o_ret 1] := rfl
theorem k78_r : a_rt 78 = (some .int) := rfl
theorem k78_s {E : AEn} {hi : AHi} {hr : AHr} {n : Nat} {Q : ARs → Prop} (x0 : Nat) (x1 : Int32) : Sp E 78 [.ref x0, .int x1] hi hr n Q ↔ Tm E 78 (a_bl 78 0) [.ref x0, .int x1, a_mk, a_mk] [] hi hr n Q := Iff.rfl
theorem K78 : (type_of% k78_0) ∧ (type_of% k78_2) ∧ (type_of% k78_r) ∧ (type_of% @k78_s) := ⟨k78_0, k78_2, k78_r, @k78_s⟩
theorem c78 {m : Nat} {is : List AOp} {ls st : List Value} {E : AEn} {hi : AHi} {hr : AHr} {n : Nat} {Q : ARs → Prop} (x0 : Nat) (x1 : Int32) : Tm E m (o_call 78 :: is) ls (.int x1 :: .ref x0 :: st) hi hr n Q ↔ (a_kd x0 = 6 ∧ x0 < n ∧ st.length ≤ 4) ∧ Sp E 78 [.ref x0, .int x1] hi hr n (fun r => Tm E m is ls (r.1.toList ++ st) r.2.1 r.2.2.1 r.2.2.2 Q) := T_cI [.int x1] rfl rfl rfl rfl
/-! CartoonHouse$Matching.<init>()V -/
theorem k79_0 : a_bl 79 0 = [o_al 0, o_obj, o_al 0, o_I (J 4), o_newa 20, o_putR 7 0, o_al 0, o_I (J 4), o_newa 20, o_putR 7 1, o_al 0, o_I (J 72), o_newa 20, o_putR 7 3, o_al 0, o_I (J 2304), o_newa 20, o_putR 7 4, o_al 0, o_I (J 8), o_newa 20, o_putR 7 5, o_al 0, o_I (J 8), o_newa 20, o_putR 7 6, o_ret 0] := rfl
theorem k79_r : a_rt 79 = none := rfl
theorem k79_s {E : AEn} {hi : AHi} {hr : AHr} {n : Nat} {Q : ARs → Prop} (x0 : Nat) : Sp E 79 [.ref x0] hi hr n Q ↔ Tm E 79 (a_bl 79 0) [.ref x0] [] hi hr n Q := Iff.rfl
theorem K79 : (type_of% k79_0) ∧ (type_of% k79_r) ∧ (type_of% @k79_s) := ⟨k79_0, k79_r, @k79_s⟩
theorem c79 {m : Nat} {is : List AOp} {ls st : List Value} {E : AEn} {hi : AHi} {hr : AHr} {n : Nat} {Q : ARs → Prop} (x0 : Nat) : Tm E m (o_call 79 :: is) ls (.ref x0 :: st) hi hr n Q ↔ (a_kd x0 = 7 ∧ x0 < n ∧ st.length ≤ 4) ∧ Sp E 79 [.ref x0] hi hr n (fun r => Tm E m is ls (r.1.toList ++ st) r.2.1 r.2.2.1 r.2.2.2 Q) := T_cI [] rfl rfl rfl rfl
/-! CartoonHouse$Matching.addMark(II)I -/
theorem k80_0 : a_bl 80 0 = [o_I (J 0), o_is 3, o_ft 1] := rfl
theorem k80_1 : a_bl 80 1 = [o_il 3, o_al 0, o_getI 7 2, o_ic 3 4, o_al 0, o_getR 7 0, o_il 3, o_iald, o_il 1, o_ic 0 2, o_al 0, o_getR 7 1, o_il 3, o_iald, o_il 2, o_ic 1 3, o_ft 2] := rfl
theorem k80_2 : a_bl 80 2 = [o_I (J (-3)), o_ret 1] := rfl
theorem k80_3 : a_bl 80 3 = [o_iinc 3 (J 1), o_goto 1] := rfl
theorem k80_4 : a_bl 80 4 = [o_al 0, o_getI 7 2, o_I (J 4), o_ic 2 5, o_I (J (-4)), o_ret 1] := rfl
theorem k80_5 : a_bl 80 5 = [o_al 0, o_getR 7 0, o_al 0, o_getI 7 2, o_il 1, o_iast, o_al 0, o_getR 7 1, o_al 0, o_getI 7 2, o_il 2, o_iast, o_al 0, o_dup, o_getI 7 2, o_I (J 1), o_bin 0, o_putI 7 2, o_al 0, o_getI 7 2, o_ret 1] := rfl
theorem k80_r : a_rt 80 = (some .int) := rfl
theorem k80_s {E : AEn} {hi : AHi} {hr : AHr} {n : Nat} {Q : ARs → Prop} (x0 : Nat) (x1 : Int32) (x2 : Int32) : Sp E 80 [.ref x0, .int x1, .int x2] hi hr n Q ↔ Tm E 80 (a_bl 80 0) [.ref x0, .int x1, .int x2, a_mk] [] hi hr n Q := Iff.rfl
theorem K80 : (type_of% k80_0) ∧ (type_of% k80_2) ∧ (type_of% k80_3) ∧ (type_of% k80_4) ∧ (type_of% k80_5) ∧ (type_of% k80_r) ∧ (type_of% @k80_s) := ⟨k80_0, k80_2, k80_3, k80_4, k80_5, k80_r, @k80_s⟩
theorem c80 {m : Nat} {is : List AOp} {ls st : List Value} {E : AEn} {hi : AHi} {hr : AHr} {n : Nat} {Q : ARs → Prop} (x0 : Nat) (x1 : Int32) (x2 : Int32) : Tm E m (o_call 80 :: is) ls (.int x2 :: .int x1 :: .ref x0 :: st) hi hr n Q ↔ (a_kd x0 = 7 ∧ x0 < n ∧ st.length ≤ 4) ∧ Sp E 80 [.ref x0, .int x1, .int x2] hi hr n (fun r => Tm E m is ls (r.1.toList ++ st) r.2.1 r.2.2.1 r.2.2.2 Q) := T_cI [.int x1, .int x2] rfl rfl rfl rfl
/-! CartoonHouse$Matching.findBest(LCartoonHouse$Drawing;LCartoonHouse$Drawing;)I -/
theorem k81_0 : a_bl 81 0 = [o_al 0, o_al 1, o_getI 3 1, o_putI 7 8, o_al 0, o_al 2, o_getI 3 1, o_putI 7 9, o_I (J 0), o_is 3, o_ft 1] := rfl
theorem k81_1 : a_bl 81 1 = [o_il 3, o_al 0, o_getI 7 8, o_ic 3 4, o_I (J 0), o_is 4, o_ft 2] := rfl
theorem k81_2 : a_bl 81 2 = [o_il 4, o_al 0, o_getI 7 9, o_ic 3 3, o_al 0, o_getR 7 3, o_il 3, o_il 4, o_call 82, o_al 1, o_getR 3 0, o_il 3, o_aald, o_al 2, o_getR 3 0, o_il 4, o_aald, o_call 127, o_iast, o_iinc 4 (J 1), o_goto 2] := rfl
theorem k81_3 : a_bl 81 3 = [o_al 0, o_getR 7 3, o_il 3, o_I (J 8), o_call 82, o_I (J 400), o_iast, o_iinc 3 (J 1), o_goto 1] := rfl
theorem k81_4 : a_bl 81 4 = [o_I (J 0), o_is 3, o_ft 5] := rfl
theorem k81_5 : a_bl 81 5 = [o_il 3, o_al 0, o_getI 7 2, o_ic 3 7, o_al 0, o_getR 7 0, o_il 3, o_iald, o_al 0, o_getI 7 8, o_ic 3 6, o_al 0, o_getR 7 1, o_il 3, o_iald, o_al 0, o_getI 7 9, o_ic 3 6, o_al 0, o_al 0, o_getR 7 0, o_il 3, o_iald, o_al 0, o_getR 7 1, o_il 3, o_iald, o_call 83, o_ft 6] := rfl
theorem k81_6 : a_bl 81 6 = [o_iinc 3 (J 1), o_goto 5] := rfl
theorem k81_7 : a_bl 81 7 = [o_al 0, o_call 84, o_al 0, o_call 86, o_al 0, o_getR 7 4, o_I (J 0), o_iald, o_ret 1] := rfl
theorem k81_r : a_rt 81 = (some .int) := rfl
theorem k81_s {E : AEn} {hi : AHi} {hr : AHr} {n : Nat} {Q : ARs → Prop} (x0 : Nat) (x1 : Nat) (x2 : Nat) : Sp E 81 [.ref x0, .ref x1, .ref x2] hi hr n Q ↔ Tm E 81 (a_bl 81 0) [.ref x0, .ref x1, .ref x2, a_mk, a_mk] [] hi hr n Q := Iff.rfl
theorem K81 : (type_of% k81_0) ∧ (type_of% k81_3) ∧ (type_of% k81_4) ∧ (type_of% k81_6) ∧ (type_of% k81_7) ∧ (type_of% k81_r) ∧ (type_of% @k81_s) := ⟨k81_0, k81_3, k81_4, k81_6, k81_7, k81_r, @k81_s⟩
theorem c81 {m : Nat} {is : List AOp} {ls st : List Value} {E : AEn} {hi : AHi} {hr : AHr} {n : Nat} {Q : ARs → Prop} (x0 : Nat) (x1 : Nat) (x2 : Nat) : Tm E m (o_call 81 :: is) ls (.ref x2 :: .ref x1 :: .ref x0 :: st) hi hr n Q ↔ (a_kd x0 = 7 ∧ x0 < n ∧ st.length ≤ 4) ∧ Sp E 81 [.ref x0, .ref x1, .ref x2] hi hr n (fun r => Tm E m is ls (r.1.toList ++ st) r.2.1 r.2.2.1 r.2.2.2 Q) := T_cI [.ref x1, .ref x2] rfl rfl rfl rfl
/-! CartoonHouse$Matching.place(II)I -/
theorem k82_0 : a_bl 82 0 = [o_il 0, o_I (J 9), o_bin 2, o_il 1, o_bin 0, o_ret 1] := rfl
theorem k82_r : a_rt 82 = (some .int) := rfl
theorem k82_s {E : AEn} {hi : AHi} {hr : AHr} {n : Nat} {Q : ARs → Prop} (x0 : Int32) (x1 : Int32) : Sp E 82 [.int x0, .int x1] hi hr n Q ↔ Tm E 82 (a_bl 82 0) [.int x0, .int x1] [] hi hr n Q := Iff.rfl
theorem K82 : (type_of% k82_0) ∧ (type_of% k82_r) ∧ (type_of% @k82_s) := ⟨k82_0, k82_r, @k82_s⟩
theorem c82 {m : Nat} {is : List AOp} {ls st : List Value} {E : AEn} {hi : AHi} {hr : AHr} {n : Nat} {Q : ARs → Prop} (x0 : Int32) (x1 : Int32) : Tm E m (o_call 82 :: is) ls (.int x1 :: .int x0 :: st) hi hr n Q ↔ st.length ≤ 4 ∧ Sp E 82 [.int x0, .int x1] hi hr n (fun r => Tm E m is ls (r.1.toList ++ st) r.2.1 r.2.2.1 r.2.2.2 Q) := T_cS [.int x0, .int x1] rfl rfl
/-! CartoonHouse$Matching.forbidOthers(II)V -/
theorem k83_0 : a_bl 83 0 = [o_I (J 0), o_is 3, o_ft 1] := rfl
theorem k83_1 : a_bl 83 1 = [o_il 3, o_I (J 8), o_ic 4 3, o_il 3, o_il 2, o_ic 0 2, o_al 0, o_getR 7 3, o_il 1, o_il 3, o_call 82, o_I (J 1000000), o_iast, o_ft 2] := rfl
theorem k83_2 : a_bl 83 2 = [o_iinc 3 (J 1), o_goto 1] := rfl
theorem k83_3 : a_bl 83 3 = [o_ret 0] := rfl
theorem k83_r : a_rt 83 = none := rfl
theorem k83_s {E : AEn} {hi : AHi} {hr : AHr} {n : Nat} {Q : ARs → Prop} (x0 : Nat) (x1 : Int32) (x2 : Int32) : Sp E 83 [.ref x0, .int x1, .int x2] hi hr n Q ↔ Tm E 83 (a_bl 83 0) [.ref x0, .int x1, .int x2, a_mk] [] hi hr n Q := Iff.rfl
theorem K83 : (type_of% k83_0) ∧ (type_of% k83_2) ∧ (type_of% k83_3) ∧ (type_of% k83_r) ∧ (type_of% @k83_s) := ⟨k83_0, k83_2, k83_3, k83_r, @k83_s⟩
theorem c83 {m : Nat} {is : List AOp} {ls st : List Value} {E : AEn} {hi : AHi} {hr : AHr} {n : Nat} {Q : ARs → Prop} (x0 : Nat) (x1 : Int32) (x2 : Int32) : Tm E m (o_call 83 :: is) ls (.int x2 :: .int x1 :: .ref x0 :: st) hi hr n Q ↔ (a_kd x0 = 7 ∧ x0 < n ∧ st.length ≤ 4) ∧ Sp E 83 [.ref x0, .int x1, .int x2] hi hr n (fun r => Tm E m is ls (r.1.toList ++ st) r.2.1 r.2.2.1 r.2.2.2 Q) := T_cI [.int x1, .int x2] rfl rfl rfl rfl
/-! CartoonHouse$Matching.fillTable()V -/
theorem k84_0 : a_bl 84 0 = [o_I (J 1), o_al 0, o_getI 7 9, o_bin 6, o_is 1, o_I (J 0), o_is 2, o_ft 1] := rfl
theorem k84_1 : a_bl 84 1 = [o_il 2, o_il 1, o_ic 3 2, o_al 0, o_getR 7 4, o_al 0, o_getI 7 8, o_I (J 256), o_bin 2, o_il 2, o_bin 0, o_I (J 400), o_al 0, o_getI 7 9, o_il 2, o_call 345, o_bin 1, o_bin 2, o_iast, o_iinc 2 (J 1), o_goto 1] := rfl
theorem k84_2 : a_bl 84 2 = [o_al 0, o_getI 7 8, o_I (J 1), o_bin 1, o_is 2, o_ft 3] := rfl
theorem k84_3 : a_bl 84 3 = [o_il 2, o_if 2 9, o_I (J 0), o_is 3, o_ft 4] := rfl
theorem k84_4 : a_bl 84 4 = [o_il 3, o_il 1, o_ic 3 8, o_al 0, o_il 2, o_I (J 8), o_il 3, o_call 85, o_is 4, o_I (J 0), o_is 5, o_ft 5] := rfl
theorem k84_5 : a_bl 84 5 = [o_il 5, o_al 0, o_getI 7 9, o_ic 3 7, o_il 3, o_il 5, o_bin 7, o_I (J 1), o_bin 3, o_if 1 6, o_il 4, o_al 0, o_il 2, o_il 5, o_il 3, o_call 85, o_call 349, o_is 4, o_ft 6] := rfl
theorem k84_6 : a_bl 84 6 = [o_iinc 5 (J 1), o_goto 5] := rfl
theorem k84_7 : a_bl 84 7 = [o_al 0, o_getR 7 4, o_il 2, o_I (J 256), o_bin 2, o_il 3, o_bin 0, o_il 4, o_iast, o_iinc 3 (J 1), o_goto 4] := rfl
theorem k84_8 : a_bl 84 8 = [o_iinc 2 (J (-1)), o_goto 3] := rfl
theorem k84_9 : a_bl 84 9 = [o_ret 0] := rfl
theorem k84_r : a_rt 84 = none := rfl
theorem k84_s {E : AEn} {hi : AHi} {hr : AHr} {n : Nat} {Q : ARs → Prop} (x0 : Nat) : Sp E 84 [.ref x0] hi hr n Q ↔ Tm E 84 (a_bl 84 0) [.ref x0, a_mk, a_mk, a_mk, a_mk, a_mk] [] hi hr n Q := Iff.rfl
theorem K84 : (type_of% k84_0) ∧ (type_of% k84_2) ∧ (type_of% k84_6) ∧ (type_of% k84_7) ∧ (type_of% k84_8) ∧ (type_of% k84_9) ∧ (type_of% k84_r) ∧ (type_of% @k84_s) := ⟨k84_0, k84_2, k84_6, k84_7, k84_8, k84_9, k84_r, @k84_s⟩
theorem c84 {m : Nat} {is : List AOp} {ls st : List Value} {E : AEn} {hi : AHi} {hr : AHr} {n : Nat} {Q : ARs → Prop} (x0 : Nat) : Tm E m (o_call 84 :: is) ls (.ref x0 :: st) hi hr n Q ↔ (a_kd x0 = 7 ∧ x0 < n ∧ st.length ≤ 4) ∧ Sp E 84 [.ref x0] hi hr n (fun r => Tm E m is ls (r.1.toList ++ st) r.2.1 r.2.2.1 r.2.2.2 Q) := T_cI [] rfl rfl rfl rfl
/-! CartoonHouse$Matching.sumWith(III)I -/
theorem k85_0 : a_bl 85 0 = [o_il 2, o_I (J 8), o_ic 3 1, o_il 3, o_I (J 1), o_il 2, o_bin 6, o_bin 4, o_goto 2] := rfl
theorem k85_1 : a_bl 85 1 = [o_il 3, o_ft 2] := rfl
theorem k85_2 : a_bl 85 2 = [o_is 4, o_al 0, o_getR 7 3, o_il 1, o_il 2, o_call 82, o_iald, o_al 0, o_getR 7 4, o_il 1, o_I (J 1), o_bin 0, o_I (J 256), o_bin 2, o_il 4, o_bin 0, o_iald, o_bin 0, o_ret 1] := rfl
theorem k85_r : a_rt 85 = (some .int) := rfl
theorem k85_s {E : AEn} {hi : AHi} {hr : AHr} {n : Nat} {Q : ARs → Prop} (x0 : Nat) (x1 : Int32) (x2 : Int32) (x3 : Int32) : Sp E 85 [.ref x0, .int x1, .int x2, .int x3] hi hr n Q ↔ Tm E 85 (a_bl 85 0) [.ref x0, .int x1, .int x2, .int x3, a_mk] [] hi hr n Q := Iff.rfl
theorem K85 : (type_of% k85_0) ∧ (type_of% k85_1) ∧ (type_of% k85_2) ∧ (type_of% k85_r) ∧ (type_of% @k85_s) := ⟨k85_0, k85_1, k85_2, k85_r, @k85_s⟩
theorem c85 {m : Nat} {is : List AOp} {ls st : List Value} {E : AEn} {hi : AHi} {hr : AHr} {n : Nat} {Q : ARs → Prop} (x0 : Nat) (x1 : Int32) (x2 : Int32) (x3 : Int32) : Tm E m (o_call 85 :: is) ls (.int x3 :: .int x2 :: .int x1 :: .ref x0 :: st) hi hr n Q ↔ (a_kd x0 = 7 ∧ x0 < n ∧ st.length ≤ 4) ∧ Sp E 85 [.ref x0, .int x1, .int x2, .int x3] hi hr n (fun r => Tm E m is ls (r.1.toList ++ st) r.2.1 r.2.2.1 r.2.2.2 Q) := T_cI [.int x1, .int x2, .int x3] rfl rfl rfl rfl
/-! CartoonHouse$Matching.tracePartners()V -/
theorem k86_0 : a_bl 86 0 = [o_I (J 0), o_is 1, o_I (J 0), o_is 2, o_ft 1] := rfl
theorem k86_1 : a_bl 86 1 = [o_il 2, o_al 0, o_getI 7 8, o_ic 3 6, o_I (J 8), o_is 3, o_al 0, o_getI 7 9, o_I (J 1), o_bin 1, o_is 4, o_ft 2] := rfl
theorem k86_2 : a_bl 86 2 = [o_il 4, o_if 2 4, o_il 1, o_il 4, o_bin 7, o_I (J 1), o_bin 3, o_if 1 3, o_al 0, o_il 2, o_il 4, o_il 1, o_call 85, o_al 0, o_getR 7 4, o_il 2, o_I (J 256), o_bin 2, o_il 1, o_bin 0, o_iald, o_ic 1 3, o_il 4, o_is 3, o_ft 3] := rfl
theorem k86_3 : a_bl 86 3 = [o_iinc 4 (J (-1)), o_goto 2] := rfl
theorem k86_4 : a_bl 86 4 = [o_al 0, o_getR 7 5, o_il 2, o_il 3, o_iast, o_il 3, o_I (J 8), o_ic 3 5, o_il 1, o_I (J 1), o_il 3, o_bin 6, o_bin 4, o_is 1, o_ft 5] := rfl
theorem k86_5 : a_bl 86 5 = [o_iinc 2 (J 1), o_goto 1] := rfl
theorem k86_6 : a_bl 86 6 = [o_ret 0] := rfl
theorem k86_r : a_rt 86 = none := rfl
theorem k86_s {E : AEn} {hi : AHi} {hr : AHr} {n : Nat} {Q : ARs → Prop} (x0 : Nat) : Sp E 86 [.ref x0] hi hr n Q ↔ Tm E 86 (a_bl 86 0) [.ref x0, a_mk, a_mk, a_mk, a_mk] [] hi hr n Q := Iff.rfl
theorem K86 : (type_of% k86_0) ∧ (type_of% k86_3) ∧ (type_of% k86_4) ∧ (type_of% k86_5) ∧ (type_of% k86_6) ∧ (type_of% k86_r) ∧ (type_of% @k86_s) := ⟨k86_0, k86_3, k86_4, k86_5, k86_6, k86_r, @k86_s⟩
theorem c86 {m : Nat} {is : List AOp} {ls st : List Value} {E : AEn} {hi : AHi} {hr : AHr} {n : Nat} {Q : ARs → Prop} (x0 : Nat) : Tm E m (o_call 86 :: is) ls (.ref x0 :: st) hi hr n Q ↔ (a_kd x0 = 7 ∧ x0 < n ∧ st.length ≤ 4) ∧ Sp E 86 [.ref x0] hi hr n (fun r => Tm E m is ls (r.1.toList ++ st) r.2.1 r.2.2.1 r.2.2.2 Q) := T_cI [] rfl rfl rfl rfl
/-! CartoonHouse$Matching.remember()V -/
theorem k87_0 : a_bl 87 0 = [o_al 0, o_getR 7 5, o_I (J 0), o_al 0, o_getR 7 6, o_I (J 0), o_I (J 8), o_cp, o_al 0, o_al 0, o_getI 7 8, o_putI 7 7, o_ret 0] := rfl
theorem k87_r : a_rt 87 = none := rfl
theorem k87_s {E : AEn} {hi : AHi} {hr : AHr} {n : Nat} {Q : ARs → Prop} (x0 : Nat) : Sp E 87 [.ref x0] hi hr n Q ↔ Tm E 87 (a_bl 87 0) [.ref x0] [] hi hr n Q := Iff.rfl
theorem K87 : (type_of% k87_0) ∧ (type_of% k87_r) ∧ (type_of% @k87_s) := ⟨k87_0, k87_r, @k87_s⟩
theorem c87 {m : Nat} {is : List AOp} {ls st : List Value} {E : AEn} {hi : AHi} {hr : AHr} {n : Nat} {Q : ARs → Prop} (x0 : Nat) : Tm E m (o_call 87 :: is) ls (.ref x0 :: st) hi hr n Q ↔ (a_kd x0 = 7 ∧ x0 < n ∧ st.length ≤ 4) ∧ Sp E 87 [.ref x0] hi hr n (fun r => Tm E m is ls (r.1.toList ++ st) r.2.1 r.2.2.1 r.2.2.2 Q) := T_cI [] rfl rfl rfl rfl
/-! CartoonHouse$Matching.rememberedPartner(I)I -/
theorem k88_0 : a_bl 88 0 = [o_il 1, o_if 2 1, o_il 1, o_al 0, o_getI 7 7, o_ic 3 1, o_al 0, o_getR 7 6, o_il 1, o_iald, o_I (J 8), o_ic 2 2, o_ft 1] := rfl
theorem k88_1 : a_bl 88 1 = [o_I (J (-1)), o_ret 1] := rfl
theorem k88_2 : a_bl 88 2 = [o_al 0, o_getR 7 6, o_il 1, o_iald, o_ret 1] := rfl
theorem k88_r : a_rt 88 = (some .int) := rfl
theorem k88_s {E : AEn} {hi : AHi} {hr : AHr} {n : Nat} {Q : ARs → Prop} (x0 : Nat) (x1 : Int32) : Sp E 88 [.ref x0, .int x1] hi hr n Q ↔ Tm E 88 (a_bl 88 0) [.ref x0, .int x1] [] hi hr n Q := Iff.rfl
theorem K88 : (type_of% k88_0) ∧ (type_of% k88_1) ∧ (type_of% k88_2) ∧ (type_of% k88_r) ∧ (type_of% @k88_s) := ⟨k88_0, k88_1, k88_2, k88_r, @k88_s⟩
theorem c88 {m : Nat} {is : List AOp} {ls st : List Value} {E : AEn} {hi : AHi} {hr : AHr} {n : Nat} {Q : ARs → Prop} (x0 : Nat) (x1 : Int32) : Tm E m (o_call 88 :: is) ls (.int x1 :: .ref x0 :: st) hi hr n Q ↔ (a_kd x0 = 7 ∧ x0 < n ∧ st.length ≤ 4) ∧ Sp E 88 [.ref x0, .int x1] hi hr n (fun r => Tm E m is ls (r.1.toList ++ st) r.2.1 r.2.2.1 r.2.2.2 Q) := T_cI [.int x1] rfl rfl rfl rfl
/-! CartoonHouse$Screen.<init>()V -/
theorem k89_0 : a_bl 89 0 = [o_al 0, o_obj, o_al 0, o_I (J 10), o_anew 42, o_putR 8 0, o_al 0, o_I (J 11), o_I (J 5), o_mna, o_putR 8 1, o_al 0, o_I (J 10), o_I (J 1536), o_mna, o_putR 8 3, o_al 0, o_I (J 10), o_newa 22, o_putR 8 4, o_al 0, o_I (J 48), o_newa 20, o_putR 8 5, o_al 0, o_I (J 32), o_newa 20, o_putR 8 6, o_al 0, o_I (J 1536), o_newa 20, o_putR 8 7, o_al 0, o_I (J 1536), o_newa 20, o_putR 8 8, o_al 0, o_I (J 8), o_I (J 1536), o_mna, o_putR 8 9, o_I (J 0), o_is 1, o_ft 1] := rfl
theorem k89_1 : a_bl 89 1 = [o_il 1, o_I (J 10), o_ic 3 2, o_al 0, o_getR 8 0, o_il 1, o_cR 4, o_aast, o_iinc 1 (J 1), o_goto 1] := rfl
theorem k89_2 : a_bl 89 2 = [o_ret 0] := rfl
theorem k89_r : a_rt 89 = none := rfl
theorem k89_s {E : AEn} {hi : AHi} {hr : AHr} {n : Nat} {Q : ARs → Prop} (x0 : Nat) : Sp E 89 [.ref x0] hi hr n Q ↔ Tm E 89 (a_bl 89 0) [.ref x0, a_mk] [] hi hr n Q := Iff.rfl
theorem K89 : (type_of% k89_0) ∧ (type_of% k89_2) ∧ (type_of% k89_r) ∧ (type_of% @k89_s) := ⟨k89_0, k89_2, k89_r, @k89_s⟩
theorem c89 {m : Nat} {is : List AOp} {ls st : List Value} {E : AEn} {hi : AHi} {hr : AHr} {n : Nat} {Q : ARs → Prop} (x0 : Nat) : Tm E m (o_call 89 :: is) ls (.ref x0 :: st) hi hr n Q ↔ (a_kd x0 = 8 ∧ x0 < n ∧ st.length ≤ 4) ∧ Sp E 89 [.ref x0] hi hr n (fun r => Tm E m is ls (r.1.toList ++ st) r.2.1 r.2.2.1 r.2.2.2 Q) := T_cI [] rfl rfl rfl rfl
/-! CartoonHouse$Screen.readNode(LCartoonHouse$Bytes;)I -/
theorem k90_0 : a_bl 90 0 = [o_al 1, o_call 13, o_al 1, o_call 91, o_as 2, o_al 0, o_getR 8 1, o_al 0, o_getI 8 2, o_aald, o_as 3, o_I (J 0), o_is 4, o_ft 1] := rfl
theorem k90_1 : a_bl 90 1 = [o_il 4, o_al 2, o_getR 12 1, o_call 339, o_ic 3 4, o_al 1, o_I (J 32), o_call 22, o_al 3, o_il 4, o_al 0, o_al 1, o_al 2, o_getR 12 1, o_il 4, o_call 341, o_il 4, o_if 5 2, o_al 3, o_il 4, o_I (J 1), o_bin 1, o_iald, o_goto 3] := rfl
theorem k90_2 : a_bl 90 2 = [o_I (J 0), o_ft 3] := rfl
theorem k90_3 : a_bl 90 3 = [o_call 92, o_iast, o_iinc 4 (J 1), o_goto 1] := rfl
theorem k90_4 : a_bl 90 4 = [o_al 1, o_call 21, o_if 0 5, o_al 1, o_al 1, o_getI 1 2, o_call 18, o_ft 5] := rfl
theorem k90_5 : a_bl 90 5 = [o_al 1, o_call 16, o_if 1 6, o_al 1, o_call 24, o_ret 1] := rfl
theorem k90_6 : a_bl 90 6 = [o_al 0, o_getI 8 2, o_I (J 10), o_ic 2 7, o_I (J (-4)), o_ret 1] := rfl
theorem k90_7 : a_bl 90 7 = [o_al 0, o_getR 8 0, o_al 0, o_getI 8 2, o_al 2, o_aast, o_al 0, o_dup, o_getI 8 2, o_I (J 1), o_bin 0, o_putI 8 2, o_al 0, o_getI 8 2, o_I (J 1), o_bin 1, o_ret 1] := rfl
theorem k90_r : a_rt 90 = (some .int) := rfl
theorem k90_s {E : AEn} {hi : AHi} {hr : AHr} {n : Nat} {Q : ARs → Prop} (x0 : Nat) (x1 : Nat) : Sp E 90 [.ref x0, .ref x1] hi hr n Q ↔ Tm E 90 (a_bl 90 0) [.ref x0, .ref x1, a_mk, a_mk, a_mk] [] hi hr n Q := Iff.rfl
theorem K90 : (type_of% k90_0) ∧ (type_of% k90_2) ∧ (type_of% k90_3) ∧ (type_of% k90_4) ∧ (type_of% k90_5) ∧ (type_of% k90_6) ∧ (type_of% k90_7) ∧ (type_of% k90_r) ∧ (type_of% @k90_s) := ⟨k90_0, k90_2, k90_3, k90_4, k90_5, k90_6, k90_7, k90_r, @k90_s⟩
theorem c90 {m : Nat} {is : List AOp} {ls st : List Value} {E : AEn} {hi : AHi} {hr : AHr} {n : Nat} {Q : ARs → Prop} (x0 : Nat) (x1 : Nat) : Tm E m (o_call 90 :: is) ls (.ref x1 :: .ref x0 :: st) hi hr n Q ↔ (a_kd x0 = 8 ∧ x0 < n ∧ st.length ≤ 4) ∧ Sp E 90 [.ref x0, .ref x1] hi hr n (fun r => Tm E m is ls (r.1.toList ++ st) r.2.1 r.2.2.1 r.2.2.2 Q) := T_cI [.ref x1] rfl rfl rfl rfl
/-! CartoonHouse$Screen.readKind(LCartoonHouse$Bytes;)LCartoonHouse$Kind; -/
theorem k91_0 : a_bl 91 0 = [o_al 0, o_getI 1 2, o_is 1, o_I (J 0), o_is 2, o_ft 1] := rfl
theorem k91_1 : a_bl 91 1 = [o_il 2, o_I (J 1600), o_ic 3 3, o_al 0, o_I (J 97), o_I (J 122), o_call 17, o_if 1 2, o_al 0, o_I (J 48), o_I (J 57), o_call 17, o_if 1 2, o_goto 3] := rfl
theorem k91_2 : a_bl 91 2 = [o_al 0, o_dup, o_getI 1 2, o_I (J 1), o_bin 0, o_putI 1 2, o_iinc 2 (J 1), o_goto 1] := rfl
theorem k91_3 : a_bl 91 3 = [o_I (J 0), o_is 2, o_ft 4] := rfl
theorem k91_4 : a_bl 91 4 = [o_il 2, o_cR 3, o_alen, o_ic 3 6, o_cR 3, o_il 2, o_aald, o_al 0, o_il 1, o_al 0, o_getI 1 2, o_call 338, o_if 0 5, o_cR 3, o_il 2, o_aald, o_ret 3] := rfl
theorem k91_5 : a_bl 91 5 = [o_iinc 2 (J 1), o_goto 4] := rfl
theorem k91_6 : a_bl 91 6 = [o_al 0, o_il 1, o_call 18, o_cR 4, o_ret 3] := rfl
theorem k91_r : a_rt 91 = (some (.object "CartoonHouse$Kind")) := rfl
theorem k91_s {E : AEn} {hi : AHi} {hr : AHr} {n : Nat} {Q : ARs → Prop} (x0 : Nat) : Sp E 91 [.ref x0] hi hr n Q ↔ Tm E 91 (a_bl 91 0) [.ref x0, a_mk, a_mk] [] hi hr n Q := Iff.rfl
theorem K91 : (type_of% k91_0) ∧ (type_of% k91_2) ∧ (type_of% k91_3) ∧ (type_of% k91_5) ∧ (type_of% k91_6) ∧ (type_of% k91_r) ∧ (type_of% @k91_s) := ⟨k91_0, k91_2, k91_3, k91_5, k91_6, k91_r, @k91_s⟩
theorem c91 {m : Nat} {is : List AOp} {ls st : List Value} {E : AEn} {hi : AHi} {hr : AHr} {n : Nat} {Q : ARs → Prop} (x0 : Nat) : Tm E m (o_call 91 :: is) ls (.ref x0 :: st) hi hr n Q ↔ st.length ≤ 4 ∧ Sp E 91 [.ref x0] hi hr n (fun r => Tm E m is ls (r.1.toList ++ st) r.2.1 r.2.2.1 r.2.2.2 Q) := T_cS [.ref x0] rfl rfl
/-! CartoonHouse$Screen.readThing(LCartoonHouse$Bytes;II)I -/
theorem k92_0 : a_bl 92 0 = [o_il 2, o_sw 102 10 [4, 5, 6, 10, 10, 9, 2, 10, 1, 10, 10, 10, 10, 3, 10, 10, 10, 10, 7, 8]] := rfl
theorem k92_1 : a_bl 92 1 = [o_al 1, o_I (J 0), o_al 0, o_getI 8 2, o_I (J 1), o_bin 1, o_call 14, o_ret 1] := rfl
theorem k92_2 : a_bl 92 2 = [o_al 1, o_I (J 0), o_I (J 3), o_call 14, o_ret 1] := rfl
theorem k92_3 : a_bl 92 3 = [o_al 1, o_I (J (-60)), o_I (J 60), o_call 27, o_ret 1] := rfl
theorem k92_4 : a_bl 92 4 = [o_al 1, o_I (J 0), o_I (J 119), o_call 14, o_ret 1] := rfl
theorem k92_5 : a_bl 92 5 = [o_al 1, o_il 3, o_I (J 1), o_bin 0, o_I (J 119), o_call 14, o_ret 1] := rfl
theorem k92_6 : a_bl 92 6 = [o_al 1, o_I (J (-99999)), o_I (J 99999), o_call 27, o_ret 1] := rfl
theorem k92_7 : a_bl 92 7 = [o_al 1, o_I (J 0), o_I (J 47), o_call 14, o_ret 1] := rfl
theorem k92_8 : a_bl 92 8 = [o_al 1, o_I (J 0), o_I (J 31), o_call 14, o_ret 1] := rfl
theorem k92_9 : a_bl 92 9 = [o_al 1, o_I (J 1), o_I (J 20), o_call 14, o_ret 1] := rfl
theorem k92_10 : a_bl 92 10 = [o_al 1, o_I (J 0), o_I (J 16777215), o_call 14, o_ret 1] := rfl
theorem k92_r : a_rt 92 = (some .int) := rfl
theorem k92_s {E : AEn} {hi : AHi} {hr : AHr} {n : Nat} {Q : ARs → Prop} (x0 : Nat) (x1 : Nat) (x2 : Int32) (x3 : Int32) : Sp E 92 [.ref x0, .ref x1, .int x2, .int x3] hi hr n Q ↔ Tm E 92 (a_bl 92 0) [.ref x0, .ref x1, .int x2, .int x3] [] hi hr n Q := Iff.rfl
theorem K92 : (type_of% k92_0) ∧ (type_of% k92_1) ∧ (type_of% k92_2) ∧ (type_of% k92_3) ∧ (type_of% k92_4) ∧ (type_of% k92_5) ∧ (type_of% k92_6) ∧ (type_of% k92_7) ∧ (type_of% k92_8) ∧ (type_of% k92_9) ∧ (type_of% k92_10) ∧ (type_of% k92_r) ∧ (type_of% @k92_s) := ⟨k92_0, k92_1, k92_2, k92_3, k92_4, k92_5, k92_6, k92_7, k92_8, k92_9, k92_10, k92_r, @k92_s⟩
theorem c92 {m : Nat} {is : List AOp} {ls st : List Value} {E : AEn} {hi : AHi} {hr : AHr} {n : Nat} {Q : ARs → Prop} (x0 : Nat) (x1 : Nat) (x2 : Int32) (x3 : Int32) : Tm E m (o_call 92 :: is) ls (.int x3 :: .int x2 :: .ref x1 :: .ref x0 :: st) hi hr n Q ↔ (a_kd x0 = 8 ∧ x0 < n ∧ st.length ≤ 4) ∧ Sp E 92 [.ref x0, .ref x1, .int x2, .int x3] hi hr n (fun r => Tm E m is ls (r.1.toList ++ st) r.2.1 r.2.2.1 r.2.2.2 Q) := T_cI [.ref x1, .int x2, .int x3] rfl rfl rfl rfl
/-! CartoonHouse$Screen.findNeeded(I)V -/
theorem k93_0 : a_bl 93 0 = [o_I (J 0), o_is 2, o_ft 1] := rfl
theorem k93_1 : a_bl 93 1 = [o_il 2, o_I (J 10), o_ic 3 4, o_al 0, o_getR 8 4, o_il 2, o_il 2, o_il 1, o_ic 1 2, o_I (J 1), o_goto 3] := rfl
theorem k93_2 : a_bl 93 2 = [o_I (J 0), o_ft 3] := rfl
theorem k93_3 : a_bl 93 3 = [o_bast, o_iinc 2 (J 1), o_goto 1] := rfl
theorem k93_4 : a_bl 93 4 = [o_il 1, o_is 2, o_ft 5] := rfl
theorem k93_5 : a_bl 93 5 = [o_il 2, o_if 2 8, o_I (J 0), o_is 3, o_ft 6] := rfl
theorem k93_6 : a_bl 93 6 = [o_il 3, o_al 0, o_getR 8 0, o_il 2, o_aald, o_getI 12 2, o_ic 3 7, o_al 0, o_getR 8 4, o_il 2, o_bald, o_if 0 7, o_al 0, o_getR 8 4, o_al 0, o_getR 8 1, o_il 2, o_aald, o_il 3, o_iald, o_I (J 1), o_bast, o_iinc 3 (J 1), o_goto 6] := rfl
theorem k93_7 : a_bl 93 7 = [o_iinc 2 (J (-1)), o_goto 5] := rfl
theorem k93_8 : a_bl 93 8 = [o_ret 0] := rfl
theorem k93_r : a_rt 93 = none := rfl
theorem k93_s {E : AEn} {hi : AHi} {hr : AHr} {n : Nat} {Q : ARs → Prop} (x0 : Nat) (x1 : Int32) : Sp E 93 [.ref x0, .int x1] hi hr n Q ↔ Tm E 93 (a_bl 93 0) [.ref x0, .int x1, a_mk, a_mk] [] hi hr n Q := Iff.rfl
theorem K93 : (type_of% k93_0) ∧ (type_of% k93_2) ∧ (type_of% k93_3) ∧ (type_of% k93_4) ∧ (type_of% k93_7) ∧ (type_of% k93_8) ∧ (type_of% k93_r) ∧ (type_of% @k93_s) := ⟨k93_0, k93_2, k93_3, k93_4, k93_7, k93_8, k93_r, @k93_s⟩
theorem c93 {m : Nat} {is : List AOp} {ls st : List Value} {E : AEn} {hi : AHi} {hr : AHr} {n : Nat} {Q : ARs → Prop} (x0 : Nat) (x1 : Int32) : Tm E m (o_call 93 :: is) ls (.int x1 :: .ref x0 :: st) hi hr n Q ↔ (a_kd x0 = 8 ∧ x0 < n ∧ st.length ≤ 4) ∧ Sp E 93 [.ref x0, .int x1] hi hr n (fun r => Tm E m is ls (r.1.toList ++ st) r.2.1 r.2.2.1 r.2.2.2 Q) := T_cI [.int x1] rfl rfl rfl rfl
/-! CartoonHouse$Screen.project(I[I[I)V -/
theorem k94_0 : a_bl 94 0 = [o_al 0, o_getR 8 3, o_il 1, o_aald, o_as 4, o_I (J 0), o_is 5, o_ft 1] := rfl
theorem k94_1 : a_bl 94 1 = [o_il 5, o_I (J 32), o_ic 3 7, o_I (J 0), o_is 6, o_ft 2] := rfl
theorem k94_2 : a_bl 94 2 = [o_il 6, o_I (J 48), o_ic 3 6, o_al 0, o_getR 8 5, o_il 6, o_iald, o_al 0, o_getR 8 6, o_il 5, o_iald, o_call 145, o_if 0 5, o_al 2, o_al 0, o_getR 8 5, o_il 6, o_iald, o_al 0, o_getR 8 6, o_il 5, o_iald, o_call 151, o_iald, o_is 7, o_al 4, o_il 6, o_il 5, o_call 151, o_il 7, o_if 1 3, o_I (J (-1)), o_goto 4] := rfl
theorem k94_3 : a_bl 94 3 = [o_al 3, o_il 7, o_iald, o_ft 4] := rfl
theorem k94_4 : a_bl 94 4 = [o_iast, o_ft 5] := rfl
theorem k94_5 : a_bl 94 5 = [o_iinc 6 (J 1), o_goto 2] := rfl
theorem k94_6 : a_bl 94 6 = [o_iinc 5 (J 1), o_goto 1] := rfl
theorem k94_7 : a_bl 94 7 = [o_ret 0] := rfl
theorem k94_r : a_rt 94 = none := rfl
theorem k94_s {E : AEn} {hi : AHi} {hr : AHr} {n : Nat} {Q : ARs → Prop} (x0 : Nat) (x1 : Int32) (x2 : Nat) (x3 : Nat) : Sp E 94 [.ref x0, .int x1, .ref x2, .ref x3] hi hr n Q ↔ Tm E 94 (a_bl 94 0) [.ref x0, .int x1, .ref x2, .ref x3, a_mk, a_mk, a_mk, a_mk] [] hi hr n Q := Iff.rfl
theorem K94 : (type_of% k94_0) ∧ (type_of% k94_3) ∧ (type_of% k94_4) ∧ (type_of% k94_5) ∧ (type_of% k94_6) ∧ (type_of% k94_7) ∧ (type_of% k94_r) ∧ (type_of% @k94_s) := ⟨k94_0, k94_3, k94_4, k94_5, k94_6, k94_7, k94_r, @k94_s⟩
theorem c94 {m : Nat} {is : List AOp} {ls st : List Value} {E : AEn} {hi : AHi} {hr : AHr} {n : Nat} {Q : ARs → Prop} (x0 : Nat) (x1 : Int32) (x2 : Nat) (x3 : Nat) : Tm E m (o_call 94 :: is) ls (.ref x3 :: .ref x2 :: .int x1 :: .ref x0 :: st) hi hr n Q ↔ (a_kd x0 = 8 ∧ x0 < n ∧ st.length ≤ 4) ∧ Sp E 94 [.ref x0, .int x1, .ref x2, .ref x3] hi hr n (fun r => Tm E m is ls (r.1.toList ++ st) r.2.1 r.2.2.1 r.2.2.2 Q) := T_cI [.int x1, .ref x2, .ref x3] rfl rfl rfl rfl
/-! CartoonHouse$Screen.drawNode(II)V -/
theorem k95_0 : a_bl 95 0 = [o_al 0, o_getR 8 3, o_il 1, o_aald, o_as 3, o_al 0, o_il 1, o_I (J 0), o_call 96, o_as 4, o_al 0, o_il 1, o_I (J 1), o_call 96, o_as 5, o_cR 2, o_al 0, o_getR 8 0, o_il 1, o_aald, o_call 344, o_iald, o_sw 1 8 [1, 2, 3, 4, 5, 6, 7]] := rfl
theorem k95_1 : a_bl 95 1 = [o_al 3, o_al 0, o_getR 8 1, o_il 1, o_aald, o_I (J 0), o_iald, o_call 356, o_goto 9] := rfl
theorem k95_2 : a_bl 95 2 = [o_al 3, o_al 4, o_al 5, o_call 97, o_goto 9] := rfl
theorem k95_3 : a_bl 95 3 = [o_al 3, o_al 4, o_al 0, o_getR 8 1, o_il 1, o_aald, o_I (J 1), o_iald, o_al 0, o_getR 8 1, o_il 1, o_aald, o_I (J 2), o_iald, o_call 98, o_goto 9] := rfl
theorem k95_4 : a_bl 95 4 = [o_al 3, o_al 4, o_al 5, o_call 99, o_goto 9] := rfl
theorem k95_5 : a_bl 95 5 = [o_al 3, o_al 4, o_al 5, o_il 2, o_al 0, o_getR 8 1, o_il 1, o_aald, o_I (J 2), o_iald, o_bin 1, o_al 0, o_getR 8 1, o_il 1, o_aald, o_I (J 3), o_iald, o_al 0, o_getR 8 1, o_il 1, o_aald, o_I (J 2), o_iald, o_bin 1, o_call 100, o_goto 9] := rfl
theorem k95_6 : a_bl 95 6 = [o_al 3, o_al 4, o_call 102, o_goto 9] := rfl
theorem k95_7 : a_bl 95 7 = [o_al 3, o_al 0, o_getR 8 1, o_il 1, o_aald, o_il 2, o_call 104, o_goto 9] := rfl
theorem k95_8 : a_bl 95 8 = [o_al 3, o_I (J (-1)), o_call 356, o_ft 9] := rfl
theorem k95_9 : a_bl 95 9 = [o_ret 0] := rfl
theorem k95_r : a_rt 95 = none := rfl
theorem k95_s {E : AEn} {hi : AHi} {hr : AHr} {n : Nat} {Q : ARs → Prop} (x0 : Nat) (x1 : Int32) (x2 : Int32) : Sp E 95 [.ref x0, .int x1, .int x2] hi hr n Q ↔ Tm E 95 (a_bl 95 0) [.ref x0, .int x1, .int x2, a_mk, a_mk, a_mk] [] hi hr n Q := Iff.rfl
theorem K95 : (type_of% k95_0) ∧ (type_of% k95_1) ∧ (type_of% k95_2) ∧ (type_of% k95_3) ∧ (type_of% k95_4) ∧ (type_of% k95_5) ∧ (type_of% k95_6) ∧ (type_of% k95_7) ∧ (type_of% k95_8) ∧ (type_of% k95_9) ∧ (type_of% k95_r) ∧ (type_of% @k95_s) := ⟨k95_0, k95_1, k95_2, k95_3, k95_4, k95_5, k95_6, k95_7, k95_8, k95_9, k95_r, @k95_s⟩
theorem c95 {m : Nat} {is : List AOp} {ls st : List Value} {E : AEn} {hi : AHi} {hr : AHr} {n : Nat} {Q : ARs → Prop} (x0 : Nat) (x1 : Int32) (x2 : Int32) : Tm E m (o_call 95 :: is) ls (.int x2 :: .int x1 :: .ref x0 :: st) hi hr n Q ↔ (a_kd x0 = 8 ∧ x0 < n ∧ st.length ≤ 4) ∧ Sp E 95 [.ref x0, .int x1, .int x2] hi hr n (fun r => Tm E m is ls (r.1.toList ++ st) r.2.1 r.2.2.1 r.2.2.2 Q) := T_cI [.int x1, .int x2] rfl rfl rfl rfl
/-! CartoonHouse$Screen.pictureTold(II)[I -/
theorem k96_0 : a_bl 96 0 = [o_al 0, o_getR 8 3, o_il 2, o_al 0, o_getR 8 0, o_il 1, o_aald, o_getI 12 2, o_ic 3 1, o_al 0, o_getR 8 1, o_il 1, o_aald, o_il 2, o_iald, o_goto 2] := rfl
theorem k96_1 : a_bl 96 1 = [o_il 1, o_ft 2] := rfl
theorem k96_2 : a_bl 96 2 = [o_aald, o_ret 3] := rfl
theorem k96_r : a_rt 96 = (some (.array .int)) := rfl
theorem k96_s {E : AEn} {hi : AHi} {hr : AHr} {n : Nat} {Q : ARs → Prop} (x0 : Nat) (x1 : Int32) (x2 : Int32) : Sp E 96 [.ref x0, .int x1, .int x2] hi hr n Q ↔ Tm E 96 (a_bl 96 0) [.ref x0, .int x1, .int x2] [] hi hr n Q := Iff.rfl
theorem K96 : (type_of% k96_0) ∧ (type_of% k96_1) ∧ (type_of% k96_2) ∧ (type_of% k96_r) ∧ (type_of% @k96_s) := ⟨k96_0, k96_1, k96_2, k96_r, @k96_s⟩
theorem c96 {m : Nat} {is : List AOp} {ls st : List Value} {E : AEn} {hi : AHi} {hr : AHr} {n : Nat} {Q : ARs → Prop} (x0 : Nat) (x1 : Int32) (x2 : Int32) : Tm E m (o_call 96 :: is) ls (.int x2 :: .int x1 :: .ref x0 :: st) hi hr n Q ↔ (a_kd x0 = 8 ∧ x0 < n ∧ st.length ≤ 4) ∧ Sp E 96 [.ref x0, .int x1, .int x2] hi hr n (fun r => Tm E m is ls (r.1.toList ++ st) r.2.1 r.2.2.1 r.2.2.2 Q) := T_cI [.int x1, .int x2] rfl rfl rfl rfl
/-! CartoonHouse$Screen.drawOver([I[I[I)V -/
theorem k97_0 : a_bl 97 0 = [o_I (J 0), o_is 3, o_ft 1] := rfl
theorem k97_1 : a_bl 97 1 = [o_il 3, o_I (J 1536), o_ic 3 4, o_al 0, o_il 3, o_al 1, o_il 3, o_iald, o_I (J (-1)), o_ic 1 2, o_al 2, o_il 3, o_iald, o_goto 3] := rfl
theorem k97_2 : a_bl 97 2 = [o_al 1, o_il 3, o_iald, o_ft 3] := rfl
theorem k97_3 : a_bl 97 3 = [o_iast, o_iinc 3 (J 1), o_goto 1] := rfl
theorem k97_4 : a_bl 97 4 = [o_ret 0] := rfl
theorem k97_r : a_rt 97 = none := rfl
theorem k97_s {E : AEn} {hi : AHi} {hr : AHr} {n : Nat} {Q : ARs → Prop} (x0 : Nat) (x1 : Nat) (x2 : Nat) : Sp E 97 [.ref x0, .ref x1, .ref x2] hi hr n Q ↔ Tm E 97 (a_bl 97 0) [.ref x0, .ref x1, .ref x2, a_mk] [] hi hr n Q := Iff.rfl
theorem K97 : (type_of% k97_0) ∧ (type_of% k97_2) ∧ (type_of% k97_3) ∧ (type_of% k97_4) ∧ (type_of% k97_r) ∧ (type_of% @k97_s) := ⟨k97_0, k97_2, k97_3, k97_4, k97_r, @k97_s⟩
theorem c97 {m : Nat} {is : List AOp} {ls st : List Value} {E : AEn} {hi : AHi} {hr : AHr} {n : Nat} {Q : ARs → Prop} (x0 : Nat) (x1 : Nat) (x2 : Nat) : Tm E m (o_call 97 :: is) ls (.ref x2 :: .ref x1 :: .ref x0 :: st) hi hr n Q ↔ st.length ≤ 4 ∧ Sp E 97 [.ref x0, .ref x1, .ref x2] hi hr n (fun r => Tm E m is ls (r.1.toList ++ st) r.2.1 r.2.2.1 r.2.2.2 Q) := T_cS [.ref x0, .ref x1, .ref x2] rfl rfl
/-! CartoonHouse$Screen.drawShift([I[III)V -/
theorem k98_0 : a_bl 98 0 = [o_I (J 0), o_is 4, o_ft 1] := rfl
theorem k98_1 : a_bl 98 1 = [o_il 4, o_I (J 32), o_ic 3 6, o_I (J 0), o_is 5, o_ft 2] := rfl
theorem k98_2 : a_bl 98 2 = [o_il 5, o_I (J 48), o_ic 3 5, o_il 5, o_il 2, o_bin 1, o_il 4, o_il 3, o_bin 1, o_call 145, o_is 6, o_al 0, o_il 5, o_il 4, o_call 151, o_il 6, o_if 0 3, o_al 1, o_il 5, o_il 2, o_bin 1, o_il 4, o_il 3, o_bin 1, o_call 151, o_iald, o_goto 4] := rfl
theorem k98_3 : a_bl 98 3 = [o_I (J (-1)), o_ft 4] := rfl
theorem k98_4 : a_bl 98 4 = [o_iast, o_iinc 5 (J 1), o_goto 2] := rfl
theorem k98_5 : a_bl 98 5 = [o_iinc 4 (J 1), o_goto 1] := rfl
theorem k98_6 : a_bl 98 6 = [o_ret 0] := rfl
theorem k98_r : a_rt 98 = none := rfl
theorem k98_s {E : AEn} {hi : AHi} {hr : AHr} {n : Nat} {Q : ARs → Prop} (x0 : Nat) (x1 : Nat) (x2 : Int32) (x3 : Int32) : Sp E 98 [.ref x0, .ref x1, .int x2, .int x3] hi hr n Q ↔ Tm E 98 (a_bl 98 0) [.ref x0, .ref x1, .int x2, .int x3, a_mk, a_mk, a_mk] [] hi hr n Q := Iff.rfl
theorem K98 : (type_of% k98_0) ∧ (type_of% k98_3) ∧ (type_of% k98_4) ∧ (type_of% k98_5) ∧ (type_of% k98_6) ∧ (type_of% k98_r) ∧ (type_of% @k98_s) := ⟨k98_0, k98_3, k98_4, k98_5, k98_6, k98_r, @k98_s⟩
theorem c98 {m : Nat} {is : List AOp} {ls st : List Value} {E : AEn} {hi : AHi} {hr : AHr} {n : Nat} {Q : ARs → Prop} (x0 : Nat) (x1 : Nat) (x2 : Int32) (x3 : Int32) : Tm E m (o_call 98 :: is) ls (.int x3 :: .int x2 :: .ref x1 :: .ref x0 :: st) hi hr n Q ↔ st.length ≤ 4 ∧ Sp E 98 [.ref x0, .ref x1, .int x2, .int x3] hi hr n (fun r => Tm E m is ls (r.1.toList ++ st) r.2.1 r.2.2.1 r.2.2.2 Q) := T_cS [.ref x0, .ref x1, .int x2, .int x3] rfl rfl
/-! CartoonHouse$Screen.drawMatte([I[I[I)V -/
theorem k99_0 : a_bl 99 0 = [o_I (J 0), o_is 3, o_ft 1] := rfl
theorem k99_1 : a_bl 99 1 = [o_il 3, o_I (J 1536), o_ic 3 4, o_al 0, o_il 3, o_al 2, o_il 3, o_iald, o_I (J (-1)), o_ic 1 2, o_I (J (-1)), o_goto 3] := rfl
theorem k99_2 : a_bl 99 2 = [o_al 1, o_il 3, o_iald, o_ft 3] := rfl
theorem k99_3 : a_bl 99 3 = [o_iast, o_iinc 3 (J 1), o_goto 1] := rfl
theorem k99_4 : a_bl 99 4 = [o_ret 0] := rfl
theorem k99_r : a_rt 99 = none := rfl
theorem k99_s {E : AEn} {hi : AHi} {hr : AHr} {n : Nat} {Q : ARs → Prop} (x0 : Nat) (x1 : Nat) (x2 : Nat) : Sp E 99 [.ref x0, .ref x1, .ref x2] hi hr n Q ↔ Tm E 99 (a_bl 99 0) [.ref x0, .ref x1, .ref x2, a_mk] [] hi hr n Q := Iff.rfl
theorem K99 : (type_of% k99_0) ∧ (type_of% k99_2) ∧ (type_of% k99_3) ∧ (type_of% k99_4) ∧ (type_of% k99_r) ∧ (type_of% @k99_s) := ⟨k99_0, k99_2, k99_3, k99_4, k99_r, @k99_s⟩
theorem c99 {m : Nat} {is : List AOp} {ls st : List Value} {E : AEn} {hi : AHi} {hr : AHr} {n : Nat} {Q : ARs → Prop} (x0 : Nat) (x1 : Nat) (x2 : Nat) : Tm E m (o_call 99 :: is) ls (.ref x2 :: .ref x1 :: .ref x0 :: st) hi hr n Q ↔ st.length ≤ 4 ∧ Sp E 99 [.ref x0, .ref x1, .ref x2] hi hr n (fun r => Tm E m is ls (r.1.toList ++ st) r.2.1 r.2.2.1 r.2.2.2 Q) := T_cS [.ref x0, .ref x1, .ref x2] rfl rfl
/-! CartoonHouse$Screen.drawFade([I[I[III)V -/
theorem k100_0 : a_bl 100 0 = [o_il 3, o_il 4, o_call 201, o_is 5, o_I (J 2), o_il 5, o_bin 2, o_il 4, o_ic 3 1, o_I (J 1), o_goto 2] := rfl
theorem k100_1 : a_bl 100 1 = [o_I (J 0), o_ft 2] := rfl
theorem k100_2 : a_bl 100 2 = [o_is 6, o_I (J 0), o_is 7, o_ft 3] := rfl
theorem k100_3 : a_bl 100 3 = [o_il 7, o_I (J 1536), o_ic 3 8, o_al 1, o_il 7, o_iald, o_I (J (-1)), o_ic 0 4, o_al 2, o_il 7, o_iald, o_I (J (-1)), o_ic 0 4, o_al 0, o_il 7, o_al 1, o_il 7, o_iald, o_al 2, o_il 7, o_iald, o_il 5, o_il 4, o_call 101, o_iast, o_goto 7] := rfl
theorem k100_4 : a_bl 100 4 = [o_al 0, o_il 7, o_il 6, o_if 0 5, o_al 1, o_il 7, o_iald, o_goto 6] := rfl
theorem k100_5 : a_bl 100 5 = [o_al 2, o_il 7, o_iald, o_ft 6] := rfl
theorem k100_6 : a_bl 100 6 = [o_iast, o_ft 7] := rfl
theorem k100_7 : a_bl 100 7 = [o_iinc 7 (J 1), o_goto 3] := rfl
theorem k100_8 : a_bl 100 8 = [o_ret 0] := rfl
theorem k100_r : a_rt 100 = none := rfl
theorem k100_s {E : AEn} {hi : AHi} {hr : AHr} {n : Nat} {Q : ARs → Prop} (x0 : Nat) (x1 : Nat) (x2 : Nat) (x3 : Int32) (x4 : Int32) : Sp E 100 [.ref x0, .ref x1, .ref x2, .int x3, .int x4] hi hr n Q ↔ Tm E 100 (a_bl 100 0) [.ref x0, .ref x1, .ref x2, .int x3, .int x4, a_mk, a_mk, a_mk] [] hi hr n Q := Iff.rfl
theorem K100 : (type_of% k100_0) ∧ (type_of% k100_1) ∧ (type_of% k100_2) ∧ (type_of% k100_4) ∧ (type_of% k100_5) ∧ (type_of% k100_6) ∧ (type_of% k100_7) ∧ (type_of% k100_8) ∧ (type_of% k100_r) ∧ (type_of% @k100_s) := ⟨k100_0, k100_1, k100_2, k100_4, k100_5, k100_6, k100_7, k100_8, k100_r, @k100_s⟩
theorem c100 {m : Nat} {is : List AOp} {ls st : List Value} {E : AEn} {hi : AHi} {hr : AHr} {n : Nat} {Q : ARs → Prop} (x0 : Nat) (x1 : Nat) (x2 : Nat) (x3 : Int32) (x4 : Int32) : Tm E m (o_call 100 :: is) ls (.int x4 :: .int x3 :: .ref x2 :: .ref x1 :: .ref x0 :: st) hi hr n Q ↔ st.length ≤ 4 ∧ Sp E 100 [.ref x0, .ref x1, .ref x2, .int x3, .int x4] hi hr n (fun r => Tm E m is ls (r.1.toList ++ st) r.2.1 r.2.2.1 r.2.2.2 Q) := T_cS [.ref x0, .ref x1, .ref x2, .int x3, .int x4] rfl rfl
/-! CartoonHouse$Screen.blend(IIII)I -/
theorem k101_0 : a_bl 101 0 = [o_I (J 0), o_is 4, o_I (J 16), o_is 5, o_ft 1] := rfl
theorem k101_1 : a_bl 101 1 = [o_il 5, o_if 2 2, o_il 4, o_il 0, o_il 5, o_bin 7, o_I (J 255), o_bin 3, o_il 3, o_il 2, o_bin 1, o_bin 2, o_il 1, o_il 5, o_bin 7, o_I (J 255), o_bin 3, o_il 2, o_bin 2, o_bin 0, o_un 1, o_il 3, o_un 1, o_call 146, o_il 5, o_bin 6, o_bin 4, o_is 4, o_iinc 5 (J (-8)), o_goto 1] := rfl
theorem k101_2 : a_bl 101 2 = [o_il 4, o_ret 1] := rfl
theorem k101_r : a_rt 101 = (some .int) := rfl
theorem k101_s {E : AEn} {hi : AHi} {hr : AHr} {n : Nat} {Q : ARs → Prop} (x0 : Int32) (x1 : Int32) (x2 : Int32) (x3 : Int32) : Sp E 101 [.int x0, .int x1, .int x2, .int x3] hi hr n Q ↔ Tm E 101 (a_bl 101 0) [.int x0, .int x1, .int x2, .int x3, a_mk, a_mk] [] hi hr n Q := Iff.rfl
theorem K101 : (type_of% k101_0) ∧ (type_of% k101_2) ∧ (type_of% k101_r) ∧ (type_of% @k101_s) := ⟨k101_0, k101_2, k101_r, @k101_s⟩
theorem c101 {m : Nat} {is : List AOp} {ls st : List Value} {E : AEn} {hi : AHi} {hr : AHr} {n : Nat} {Q : ARs → Prop} (x0 : Int32) (x1 : Int32) (x2 : Int32) (x3 : Int32) : Tm E m (o_call 101 :: is) ls (.int x3 :: .int x2 :: .int x1 :: .int x0 :: st) hi hr n Q ↔ st.length ≤ 4 ∧ Sp E 101 [.int x0, .int x1, .int x2, .int x3] hi hr n (fun r => Tm E m is ls (r.1.toList ++ st) r.2.1 r.2.2.1 r.2.2.2 Q) := T_cS [.int x0, .int x1, .int x2, .int x3] rfl rfl
/-! CartoonHouse$Screen.drawBlur([I[I)V -/
theorem k102_0 : a_bl 102 0 = [o_I (J 0), o_is 2, o_ft 1] := rfl
theorem k102_1 : a_bl 102 1 = [o_il 2, o_I (J 32), o_ic 3 6, o_I (J 0), o_is 3, o_ft 2] := rfl
theorem k102_2 : a_bl 102 2 = [o_il 3, o_I (J 48), o_ic 3 5, o_il 3, o_il 2, o_call 151, o_is 4, o_al 0, o_il 4, o_al 1, o_il 4, o_iald, o_I (J (-1)), o_ic 1 3, o_I (J (-1)), o_goto 4] := rfl
theorem k102_3 : a_bl 102 3 = [o_al 1, o_il 3, o_il 2, o_call 103, o_ft 4] := rfl
theorem k102_4 : a_bl 102 4 = [o_iast, o_iinc 3 (J 1), o_goto 2] := rfl
theorem k102_5 : a_bl 102 5 = [o_iinc 2 (J 1), o_goto 1] := rfl
theorem k102_6 : a_bl 102 6 = [o_ret 0] := rfl
theorem k102_r : a_rt 102 = none := rfl
theorem k102_s {E : AEn} {hi : AHi} {hr : AHr} {n : Nat} {Q : ARs → Prop} (x0 : Nat) (x1 : Nat) : Sp E 102 [.ref x0, .ref x1] hi hr n Q ↔ Tm E 102 (a_bl 102 0) [.ref x0, .ref x1, a_mk, a_mk, a_mk] [] hi hr n Q := Iff.rfl
theorem K102 : (type_of% k102_0) ∧ (type_of% k102_3) ∧ (type_of% k102_4) ∧ (type_of% k102_5) ∧ (type_of% k102_6) ∧ (type_of% k102_r) ∧ (type_of% @k102_s) := ⟨k102_0, k102_3, k102_4, k102_5, k102_6, k102_r, @k102_s⟩
theorem c102 {m : Nat} {is : List AOp} {ls st : List Value} {E : AEn} {hi : AHi} {hr : AHr} {n : Nat} {Q : ARs → Prop} (x0 : Nat) (x1 : Nat) : Tm E m (o_call 102 :: is) ls (.ref x1 :: .ref x0 :: st) hi hr n Q ↔ st.length ≤ 4 ∧ Sp E 102 [.ref x0, .ref x1] hi hr n (fun r => Tm E m is ls (r.1.toList ++ st) r.2.1 r.2.2.1 r.2.2.2 Q) := T_cS [.ref x0, .ref x1] rfl rfl
/-! CartoonHouse$Screen.blurAt([III)I -/
theorem k103_0 : a_bl 103 0 = [o_I (J 0), o_is 3, o_I (J 0), o_is 4, o_I (J 0), o_is 5, o_I (J 0), o_is 6, o_I (J 0), o_il 2, o_I (J 1), o_bin 1, o_call 347, o_is 7, o_ft 1] := rfl
theorem k103_1 : a_bl 103 1 = [o_il 7, o_I (J 31), o_il 2, o_I (J 1), o_bin 0, o_call 349, o_ic 4 5, o_I (J 0), o_il 1, o_I (J 1), o_bin 1, o_call 347, o_is 8, o_ft 2] := rfl
theorem k103_2 : a_bl 103 2 = [o_il 8, o_I (J 47), o_il 1, o_I (J 1), o_bin 0, o_call 349, o_ic 4 4, o_al 0, o_il 8, o_il 7, o_call 151, o_iald, o_is 9, o_il 9, o_I (J (-1)), o_ic 0 3, o_iinc 3 (J 1), o_il 4, o_il 9, o_I (J 16), o_bin 7, o_I (J 255), o_bin 3, o_bin 0, o_is 4, o_il 5, o_il 9, o_I (J 8), o_bin 7, o_I (J 255), o_bin 3, o_bin 0, o_is 5, o_il 6, o_il 9, o_I (J 255), o_bin 3, o_bin 0, o_is 6, o_ft 3] := rfl
theorem k103_3 : a_bl 103 3 = [o_iinc 8 (J 1), o_goto 2] := rfl
theorem k103_4 : a_bl 103 4 = [o_iinc 7 (J 1), o_goto 1] := rfl
theorem k103_5 : a_bl 103 5 = [o_il 4, o_un 1, o_il 3, o_un 1, o_call 146, o_I (J 16), o_bin 6, o_il 5, o_un 1, o_il 3, o_un 1, o_call 146, o_I (J 8), o_bin 6, o_bin 4, o_il 6, o_un 1, o_il 3, o_un 1, o_call 146, o_bin 4, o_ret 1] := rfl
theorem k103_r : a_rt 103 = (some .int) := rfl
theorem k103_s {E : AEn} {hi : AHi} {hr : AHr} {n : Nat} {Q : ARs → Prop} (x0 : Nat) (x1 : Int32) (x2 : Int32) : Sp E 103 [.ref x0, .int x1, .int x2] hi hr n Q ↔ Tm E 103 (a_bl 103 0) [.ref x0, .int x1, .int x2, a_mk, a_mk, a_mk, a_mk, a_mk, a_mk, a_mk] [] hi hr n Q := Iff.rfl
theorem K103 : (type_of% k103_0) ∧ (type_of% k103_3) ∧ (type_of% k103_4) ∧ (type_of% k103_5) ∧ (type_of% k103_r) ∧ (type_of% @k103_s) := ⟨k103_0, k103_3, k103_4, k103_5, k103_r, @k103_s⟩
theorem c103 {m : Nat} {is : List AOp} {ls st : List Value} {E : AEn} {hi : AHi} {hr : AHr} {n : Nat} {Q : ARs → Prop} (x0 : Nat) (x1 : Int32) (x2 : Int32) : Tm E m (o_call 103 :: is) ls (.int x2 :: .int x1 :: .ref x0 :: st) hi hr n Q ↔ st.length ≤ 4 ∧ Sp E 103 [.ref x0, .int x1, .int x2] hi hr n (fun r => Tm E m is ls (r.1.toList ++ st) r.2.1 r.2.2.1 r.2.2.2 Q) := T_cS [.ref x0, .int x1, .int x2] rfl rfl
/-! CartoonHouse$Screen.drawSparks([I[II)V -/
theorem k104_0 : a_bl 104 0 = [o_al 0, o_I (J (-1)), o_call 356, o_I (J 0), o_is 3, o_ft 1] := rfl
theorem k104_1 : a_bl 104 1 = [o_il 3, o_al 1, o_I (J 3), o_iald, o_ic 3 3, o_il 2, o_il 3, o_bin 1, o_is 4, o_il 4, o_if 2 2, o_il 4, o_I (J 23), o_ic 4 2, o_al 1, o_I (J 0), o_iald, o_il 3, o_I (J 1), o_I (J 0), o_I (J 0), o_call 199, o_I (J 8), o_bin 8, o_I (J 17), o_bin 10, o_I (J 8), o_bin 1, o_is 5, o_al 1, o_I (J 0), o_iald, o_il 3, o_I (J 2), o_I (J 0), o_I (J 0), o_call 199, o_I (J 8), o_bin 8, o_I (J 33), o_bin 10, o_I (J 24), o_bin 1, o_is 6, o_al 1, o_I (J 1), o_iald, o_il 5, o_il 4, o_bin 2, o_I (J 4), o_call 350, o_bin 0, o_is 7, o_al 1, o_I (J 2), o_iald, o_il 6, o_il 4, o_bin 2, o_il 4, o_il 4, o_bin 2, o_bin 0, o_I (J 8), o_call 350, o_bin 0, o_is 8, o_il 7, o_il 8, o_call 145, o_if 0 2, o_al 0, o_il 7, o_il 8, o_call 151, o_al 1, o_I (J 4), o_iald, o_iast, o_ft 2] := rfl
theorem k104_2 : a_bl 104 2 = [o_iinc 3 (J 1), o_goto 1] := rfl
theorem k104_3 : a_bl 104 3 = [o_ret 0] := rfl
theorem k104_r : a_rt 104 = none := rfl
theorem k104_s {E : AEn} {hi : AHi} {hr : AHr} {n : Nat} {Q : ARs → Prop} (x0 : Nat) (x1 : Nat) (x2 : Int32) : Sp E 104 [.ref x0, .ref x1, .int x2] hi hr n Q ↔ Tm E 104 (a_bl 104 0) [.ref x0, .ref x1, .int x2, a_mk, a_mk, a_mk, a_mk, a_mk, a_mk] [] hi hr n Q := Iff.rfl
theorem K104 : (type_of% k104_0) ∧ (type_of% k104_2) ∧ (type_of% k104_3) ∧ (type_of% k104_r) ∧ (type_of% @k104_s) := ⟨k104_0, k104_2, k104_3, k104_r, @k104_s⟩
theorem c104 {m : Nat} {is : List AOp} {ls st : List Value} {E : AEn} {hi : AHi} {hr : AHr} {n : Nat} {Q : ARs → Prop} (x0 : Nat) (x1 : Nat) (x2 : Int32) : Tm E m (o_call 104 :: is) ls (.int x2 :: .ref x1 :: .ref x0 :: st) hi hr n Q ↔ st.length ≤ 4 ∧ Sp E 104 [.ref x0, .ref x1, .int x2] hi hr n (fun r => Tm E m is ls (r.1.toList ++ st) r.2.1 r.2.2.1 r.2.2.2 Q) := T_cS [.ref x0, .ref x1, .int x2] rfl rfl
/-! CartoonHouse$Screen.beginFilm()V -/
theorem k105_0 : a_bl 105 0 = [o_al 0, o_I (J 0), o_putI 8 10, o_al 0, o_getR 8 7, o_I (J (-1)), o_call 356, o_ret 0] := rfl
theorem k105_r : a_rt 105 = none := rfl
theorem k105_s {E : AEn} {hi : AHi} {hr : AHr} {n : Nat} {Q : ARs → Prop} (x0 : Nat) : Sp E 105 [.ref x0] hi hr n Q ↔ Tm E 105 (a_bl 105 0) [.ref x0] [] hi hr n Q := Iff.rfl
theorem K105 : (type_of% k105_0) ∧ (type_of% k105_r) ∧ (type_of% @k105_s) := ⟨k105_0, k105_r, @k105_s⟩
theorem c105 {m : Nat} {is : List AOp} {ls st : List Value} {E : AEn} {hi : AHi} {hr : AHr} {n : Nat} {Q : ARs → Prop} (x0 : Nat) : Tm E m (o_call 105 :: is) ls (.ref x0 :: st) hi hr n Q ↔ (a_kd x0 = 8 ∧ x0 < n ∧ st.length ≤ 4) ∧ Sp E 105 [.ref x0] hi hr n (fun r => Tm E m is ls (r.1.toList ++ st) r.2.1 r.2.2.1 r.2.2.2 Q) := T_cI [] rfl rfl rfl rfl
/-! CartoonHouse$Screen.addToFilm([ILCartoonHouse$Bytes;)V -/
theorem k106_0 : a_bl 106 0 = [o_al 0, o_getI 8 10, o_I (J 8), o_ic 2 1, o_ret 0] := rfl
theorem k106_1 : a_bl 106 1 = [o_I (J 0), o_is 3, o_I (J 0), o_is 4, o_ft 2] := rfl
theorem k106_2 : a_bl 106 2 = [o_il 4, o_I (J 1536), o_ic 3 5, o_il 3, o_I (J 1536), o_ic 3 5, o_al 0, o_il 3, o_al 1, o_I (J 1), o_call 107, o_is 5, o_al 0, o_il 3, o_il 5, o_bin 0, o_al 1, o_I (J 0), o_call 107, o_is 6, o_al 2, o_il 5, o_call 11, o_al 2, o_il 6, o_call 11, o_il 3, o_il 5, o_bin 0, o_is 3, o_I (J 0), o_is 7, o_ft 3] := rfl
theorem k106_3 : a_bl 106 3 = [o_il 7, o_il 6, o_ic 3 4, o_al 2, o_al 1, o_il 3, o_iald, o_call 108, o_iinc 3 (J 1), o_iinc 7 (J 1), o_goto 3] := rfl
theorem k106_4 : a_bl 106 4 = [o_iinc 4 (J 1), o_goto 2] := rfl
theorem k106_5 : a_bl 106 5 = [o_al 1, o_I (J 0), o_al 0, o_getR 8 7, o_I (J 0), o_I (J 1536), o_cp, o_al 1, o_I (J 0), o_al 0, o_getR 8 9, o_al 0, o_getI 8 10, o_aald, o_I (J 0), o_I (J 1536), o_cp, o_al 0, o_dup, o_getI 8 10, o_I (J 1), o_bin 0, o_putI 8 10, o_ret 0] := rfl
theorem k106_r : a_rt 106 = none := rfl
theorem k106_s {E : AEn} {hi : AHi} {hr : AHr} {n : Nat} {Q : ARs → Prop} (x0 : Nat) (x1 : Nat) (x2 : Nat) : Sp E 106 [.ref x0, .ref x1, .ref x2] hi hr n Q ↔ Tm E 106 (a_bl 106 0) [.ref x0, .ref x1, .ref x2, a_mk, a_mk, a_mk, a_mk, a_mk] [] hi hr n Q := Iff.rfl
theorem K106 : (type_of% k106_0) ∧ (type_of% k106_1) ∧ (type_of% k106_4) ∧ (type_of% k106_5) ∧ (type_of% k106_r) ∧ (type_of% @k106_s) := ⟨k106_0, k106_1, k106_4, k106_5, k106_r, @k106_s⟩
theorem c106 {m : Nat} {is : List AOp} {ls st : List Value} {E : AEn} {hi : AHi} {hr : AHr} {n : Nat} {Q : ARs → Prop} (x0 : Nat) (x1 : Nat) (x2 : Nat) : Tm E m (o_call 106 :: is) ls (.ref x2 :: .ref x1 :: .ref x0 :: st) hi hr n Q ↔ (a_kd x0 = 8 ∧ x0 < n ∧ st.length ≤ 4) ∧ Sp E 106 [.ref x0, .ref x1, .ref x2] hi hr n (fun r => Tm E m is ls (r.1.toList ++ st) r.2.1 r.2.2.1 r.2.2.2 Q) := T_cI [.ref x1, .ref x2] rfl rfl rfl rfl
/-! CartoonHouse$Screen.runFrom(I[IZ)I -/
theorem k107_0 : a_bl 107 0 = [o_I (J 0), o_is 4, o_ft 1] := rfl
theorem k107_1 : a_bl 107 1 = [o_il 4, o_I (J 255), o_ic 3 4, o_il 1, o_il 4, o_bin 0, o_I (J 1536), o_ic 3 4, o_al 2, o_il 1, o_il 4, o_bin 0, o_iald, o_al 0, o_getR 8 7, o_il 1, o_il 4, o_bin 0, o_iald, o_ic 1 2, o_I (J 1), o_goto 3] := rfl
theorem k107_2 : a_bl 107 2 = [o_I (J 0), o_ft 3] := rfl
theorem k107_3 : a_bl 107 3 = [o_il 3, o_ic 1 4, o_iinc 4 (J 1), o_goto 1] := rfl
theorem k107_4 : a_bl 107 4 = [o_il 4, o_ret 1] := rfl
theorem k107_r : a_rt 107 = (some .int) := rfl
theorem k107_s {E : AEn} {hi : AHi} {hr : AHr} {n : Nat} {Q : ARs → Prop} (x0 : Nat) (x1 : Int32) (x2 : Nat) (x3 : Int32) : Sp E 107 [.ref x0, .int x1, .ref x2, .int x3] hi hr n Q ↔ Tm E 107 (a_bl 107 0) [.ref x0, .int x1, .ref x2, .int x3, a_mk] [] hi hr n Q := Iff.rfl
theorem K107 : (type_of% k107_0) ∧ (type_of% k107_2) ∧ (type_of% k107_3) ∧ (type_of% k107_4) ∧ (type_of% k107_r) ∧ (type_of% @k107_s) := ⟨k107_0, k107_2, k107_3, k107_4, k107_r, @k107_s⟩
theorem c107 {m : Nat} {is : List AOp} {ls st : List Value} {E : AEn} {hi : AHi} {hr : AHr} {n : Nat} {Q : ARs → Prop} (x0 : Nat) (x1 : Int32) (x2 : Nat) (x3 : Int32) : Tm E m (o_call 107 :: is) ls (.int x3 :: .ref x2 :: .int x1 :: .ref x0 :: st) hi hr n Q ↔ (a_kd x0 = 8 ∧ x0 < n ∧ st.length ≤ 4) ∧ Sp E 107 [.ref x0, .int x1, .ref x2, .int x3] hi hr n (fun r => Tm E m is ls (r.1.toList ++ st) r.2.1 r.2.2.1 r.2.2.2 Q) := T_cI [.int x1, .ref x2, .int x3] rfl rfl rfl rfl
/-! CartoonHouse$Screen.putPixel(LCartoonHouse$Bytes;I)V -/
theorem k108_0 : a_bl 108 0 = [o_il 1, o_I (J (-1)), o_ic 1 1, o_al 0, o_I (J 0), o_call 11, o_goto 2] := rfl
theorem k108_1 : a_bl 108 1 = [o_al 0, o_I (J 1), o_call 11, o_al 0, o_il 1, o_I (J 16), o_bin 7, o_call 11, o_al 0, o_il 1, o_I (J 8), o_bin 7, o_call 11, o_al 0, o_il 1, o_call 11, o_ft 2] := rfl
theorem k108_2 : a_bl 108 2 = [o_ret 0] := rfl
theorem k108_r : a_rt 108 = none := rfl
theorem k108_s {E : AEn} {hi : AHi} {hr : AHr} {n : Nat} {Q : ARs → Prop} (x0 : Nat) (x1 : Int32) : Sp E 108 [.ref x0, .int x1] hi hr n Q ↔ Tm E 108 (a_bl 108 0) [.ref x0, .int x1] [] hi hr n Q := Iff.rfl
theorem K108 : (type_of% k108_0) ∧ (type_of% k108_1) ∧ (type_of% k108_2) ∧ (type_of% k108_r) ∧ (type_of% @k108_s) := ⟨k108_0, k108_1, k108_2, k108_r, @k108_s⟩
theorem c108 {m : Nat} {is : List AOp} {ls st : List Value} {E : AEn} {hi : AHi} {hr : AHr} {n : Nat} {Q : ARs → Prop} (x0 : Nat) (x1 : Int32) : Tm E m (o_call 108 :: is) ls (.int x1 :: .ref x0 :: st) hi hr n Q ↔ st.length ≤ 4 ∧ Sp E 108 [.ref x0, .int x1] hi hr n (fun r => Tm E m is ls (r.1.toList ++ st) r.2.1 r.2.2.1 r.2.2.2 Q) := T_cS [.ref x0, .int x1] rfl rfl
/-! CartoonHouse$Screen.flickers([I)I -/
theorem k109_0 : a_bl 109 0 = [o_I (J 0), o_is 2, o_I (J 0), o_is 3, o_ft 1] := rfl
theorem k109_1 : a_bl 109 1 = [o_il 3, o_I (J 1536), o_ic 3 3, o_al 0, o_getR 8 8, o_il 3, o_iald, o_al 0, o_getR 8 7, o_il 3, o_iald, o_ic 0 2, o_al 0, o_getR 8 7, o_il 3, o_iald, o_al 1, o_il 3, o_iald, o_ic 1 2, o_iinc 2 (J 1), o_ft 2] := rfl
theorem k109_2 : a_bl 109 2 = [o_iinc 3 (J 1), o_goto 1] := rfl
theorem k109_3 : a_bl 109 3 = [o_il 2, o_ret 1] := rfl
theorem k109_r : a_rt 109 = (some .int) := rfl
theorem k109_s {E : AEn} {hi : AHi} {hr : AHr} {n : Nat} {Q : ARs → Prop} (x0 : Nat) (x1 : Nat) : Sp E 109 [.ref x0, .ref x1] hi hr n Q ↔ Tm E 109 (a_bl 109 0) [.ref x0, .ref x1, a_mk, a_mk] [] hi hr n Q := Iff.rfl
theorem K109 : (type_of% k109_0) ∧ (type_of% k109_2) ∧ (type_of% k109_3) ∧ (type_of% k109_r) ∧ (type_of% @k109_s) := ⟨k109_0, k109_2, k109_3, k109_r, @k109_s⟩
theorem c109 {m : Nat} {is : List AOp} {ls st : List Value} {E : AEn} {hi : AHi} {hr : AHr} {n : Nat} {Q : ARs → Prop} (x0 : Nat) (x1 : Nat) : Tm E m (o_call 109 :: is) ls (.ref x1 :: .ref x0 :: st) hi hr n Q ↔ (a_kd x0 = 8 ∧ x0 < n ∧ st.length ≤ 4) ∧ Sp E 109 [.ref x0, .ref x1] hi hr n (fun r => Tm E m is ls (r.1.toList ++ st) r.2.1 r.2.2.1 r.2.2.2 Q) := T_cI [.ref x1] rfl rfl rfl rfl
/-! CartoonHouse$Stroke.<init>()V -/
theorem k110_0 : a_bl 110 0 = [o_al 0, o_obj, o_al 0, o_I (J 10), o_newa 20, o_putR 9 2, o_al 0, o_I (J 10), o_newa 20, o_putR 9 3, o_ret 0] := rfl
theorem k110_r : a_rt 110 = none := rfl
theorem k110_s {E : AEn} {hi : AHi} {hr : AHr} {n : Nat} {Q : ARs → Prop} (x0 : Nat) : Sp E 110 [.ref x0] hi hr n Q ↔ Tm E 110 (a_bl 110 0) [.ref x0] [] hi hr n Q := Iff.rfl
theorem K110 : (type_of% k110_0) ∧ (type_of% k110_r) ∧ (type_of% @k110_s) := ⟨k110_0, k110_r, @k110_s⟩
theorem c110 {m : Nat} {is : List AOp} {ls st : List Value} {E : AEn} {hi : AHi} {hr : AHr} {n : Nat} {Q : ARs → Prop} (x0 : Nat) : Tm E m (o_call 110 :: is) ls (.ref x0 :: st) hi hr n Q ↔ (a_kd x0 = 9 ∧ x0 < n ∧ st.length ≤ 4) ∧ Sp E 110 [.ref x0] hi hr n (fun r => Tm E m is ls (r.1.toList ++ st) r.2.1 r.2.2.1 r.2.2.2 Q) := T_cI [] rfl rfl rfl rfl
/-! CartoonHouse$Stroke.readFrom(LCartoonHouse$Bytes;)V -/
theorem k111_0 : a_bl 111 0 = [o_al 1, o_call 13, o_al 0, o_I (J 0), o_putI 9 1, o_al 0, o_al 1, o_I (J 1), o_I (J 15), o_call 14, o_putI 9 0, o_I (J 0), o_is 2, o_ft 1] := rfl
theorem k111_1 : a_bl 111 1 = [o_il 2, o_I (J 10), o_ic 4 2, o_al 1, o_call 20, o_if 0 2, o_al 0, o_al 1, o_call 112, o_iinc 2 (J 1), o_goto 1] := rfl
theorem k111_2 : a_bl 111 2 = [o_al 0, o_getI 9 1, o_I (J 2), o_ic 3 3, o_al 1, o_al 1, o_getI 1 2, o_call 18, o_ft 3] := rfl
theorem k111_3 : a_bl 111 3 = [o_ret 0] := rfl
theorem k111_r : a_rt 111 = none := rfl
theorem k111_s {E : AEn} {hi : AHi} {hr : AHr} {n : Nat} {Q : ARs → Prop} (x0 : Nat) (x1 : Nat) : Sp E 111 [.ref x0, .ref x1] hi hr n Q ↔ Tm E 111 (a_bl 111 0) [.ref x0, .ref x1, a_mk] [] hi hr n Q := Iff.rfl
theorem K111 : (type_of% k111_0) ∧ (type_of% k111_2) ∧ (type_of% k111_3) ∧ (type_of% k111_r) ∧ (type_of% @k111_s) := ⟨k111_0, k111_2, k111_3, k111_r, @k111_s⟩
theorem c111 {m : Nat} {is : List AOp} {ls st : List Value} {E : AEn} {hi : AHi} {hr : AHr} {n : Nat} {Q : ARs → Prop} (x0 : Nat) (x1 : Nat) : Tm E m (o_call 111 :: is) ls (.ref x1 :: .ref x0 :: st) hi hr n Q ↔ (a_kd x0 = 9 ∧ x0 < n ∧ st.length ≤ 4) ∧ Sp E 111 [.ref x0, .ref x1] hi hr n (fun r => Tm E m is ls (r.1.toList ++ st) r.2.1 r.2.2.1 r.2.2.2 Q) := T_cI [.ref x1] rfl rfl rfl rfl
/-! CartoonHouse$Stroke.readPoint(LCartoonHouse$Bytes;)V -/
theorem k112_0 : a_bl 112 0 = [o_al 1, o_getI 1 2, o_is 2, o_al 0, o_getI 9 1, o_I (J 10), o_ic 2 1, o_al 1, o_il 2, o_call 18, o_ft 1] := rfl
theorem k112_1 : a_bl 112 1 = [o_al 1, o_I (J 0), o_I (J 47), o_call 14, o_is 3, o_al 1, o_I (J 44), o_call 22, o_al 1, o_I (J 0), o_I (J 31), o_call 14, o_is 4, o_al 0, o_il 3, o_il 4, o_call 113, o_if 0 2, o_al 1, o_il 2, o_call 18, o_ft 2] := rfl
theorem k112_2 : a_bl 112 2 = [o_al 0, o_il 3, o_il 4, o_call 114, o_ret 0] := rfl
theorem k112_r : a_rt 112 = none := rfl
theorem k112_s {E : AEn} {hi : AHi} {hr : AHr} {n : Nat} {Q : ARs → Prop} (x0 : Nat) (x1 : Nat) : Sp E 112 [.ref x0, .ref x1] hi hr n Q ↔ Tm E 112 (a_bl 112 0) [.ref x0, .ref x1, a_mk, a_mk, a_mk] [] hi hr n Q := Iff.rfl
theorem K112 : (type_of% k112_0) ∧ (type_of% k112_1) ∧ (type_of% k112_2) ∧ (type_of% k112_r) ∧ (type_of% @k112_s) := ⟨k112_0, k112_1, k112_2, k112_r, @k112_s⟩
theorem c112 {m : Nat} {is : List AOp} {ls st : List Value} {E : AEn} {hi : AHi} {hr : AHr} {n : Nat} {Q : ARs → Prop} (x0 : Nat) (x1 : Nat) : Tm E m (o_call 112 :: is) ls (.ref x1 :: .ref x0 :: st) hi hr n Q ↔ (a_kd x0 = 9 ∧ x0 < n ∧ st.length ≤ 4) ∧ Sp E 112 [.ref x0, .ref x1] hi hr n (fun r => Tm E m is ls (r.1.toList ++ st) r.2.1 r.2.2.1 r.2.2.2 Q) := T_cI [.ref x1] rfl rfl rfl rfl
/-! CartoonHouse$Stroke.hasLast(II)Z -/
theorem k113_0 : a_bl 113 0 = [o_al 0, o_getI 9 1, o_if 5 1, o_al 0, o_getR 9 2, o_al 0, o_getI 9 1, o_I (J 1), o_bin 1, o_iald, o_il 1, o_ic 1 1, o_al 0, o_getR 9 3, o_al 0, o_getI 9 1, o_I (J 1), o_bin 1, o_iald, o_il 2, o_ic 1 1, o_I (J 1), o_goto 2] := rfl
theorem k113_1 : a_bl 113 1 = [o_I (J 0), o_ft 2] := rfl
theorem k113_2 : a_bl 113 2 = [o_ret 1] := rfl
theorem k113_r : a_rt 113 = (some .boolean) := rfl
theorem k113_s {E : AEn} {hi : AHi} {hr : AHr} {n : Nat} {Q : ARs → Prop} (x0 : Nat) (x1 : Int32) (x2 : Int32) : Sp E 113 [.ref x0, .int x1, .int x2] hi hr n Q ↔ Tm E 113 (a_bl 113 0) [.ref x0, .int x1, .int x2] [] hi hr n Q := Iff.rfl
theorem K113 : (type_of% k113_0) ∧ (type_of% k113_1) ∧ (type_of% k113_2) ∧ (type_of% k113_r) ∧ (type_of% @k113_s) := ⟨k113_0, k113_1, k113_2, k113_r, @k113_s⟩
theorem c113 {m : Nat} {is : List AOp} {ls st : List Value} {E : AEn} {hi : AHi} {hr : AHr} {n : Nat} {Q : ARs → Prop} (x0 : Nat) (x1 : Int32) (x2 : Int32) : Tm E m (o_call 113 :: is) ls (.int x2 :: .int x1 :: .ref x0 :: st) hi hr n Q ↔ (a_kd x0 = 9 ∧ x0 < n ∧ st.length ≤ 4) ∧ Sp E 113 [.ref x0, .int x1, .int x2] hi hr n (fun r => Tm E m is ls (r.1.toList ++ st) r.2.1 r.2.2.1 r.2.2.2 Q) := T_cI [.int x1, .int x2] rfl rfl rfl rfl
/-! CartoonHouse$Stroke.addPoint(II)V -/
theorem k114_0 : a_bl 114 0 = [o_al 0, o_getI 9 1, o_I (J 10), o_ic 3 1, o_al 0, o_getR 9 2, o_al 0, o_getI 9 1, o_il 1, o_iast, o_al 0, o_getR 9 3, o_al 0, o_getI 9 1, o_il 2, o_iast, o_al 0, o_dup, o_getI 9 1, o_I (J 1), o_bin 0, o_putI 9 1, o_ft 1] := rfl
theorem k114_1 : a_bl 114 1 = [o_ret 0] := rfl
theorem k114_r : a_rt 114 = none := rfl
theorem k114_s {E : AEn} {hi : AHi} {hr : AHr} {n : Nat} {Q : ARs → Prop} (x0 : Nat) (x1 : Int32) (x2 : Int32) : Sp E 114 [.ref x0, .int x1, .int x2] hi hr n Q ↔ Tm E 114 (a_bl 114 0) [.ref x0, .int x1, .int x2] [] hi hr n Q := Iff.rfl
theorem K114 : (type_of% k114_0) ∧ (type_of% k114_1) ∧ (type_of% k114_r) ∧ (type_of% @k114_s) := ⟨k114_0, k114_1, k114_r, @k114_s⟩
theorem c114 {m : Nat} {is : List AOp} {ls st : List Value} {E : AEn} {hi : AHi} {hr : AHr} {n : Nat} {Q : ARs → Prop} (x0 : Nat) (x1 : Int32) (x2 : Int32) : Tm E m (o_call 114 :: is) ls (.int x2 :: .int x1 :: .ref x0 :: st) hi hr n Q ↔ (a_kd x0 = 9 ∧ x0 < n ∧ st.length ≤ 4) ∧ Sp E 114 [.ref x0, .int x1, .int x2] hi hr n (fun r => Tm E m is ls (r.1.toList ++ st) r.2.1 r.2.2.1 r.2.2.2 Q) := T_cI [.int x1, .int x2] rfl rfl rfl rfl
/-! CartoonHouse$Stroke.becomePart(LCartoonHouse$Stroke;II)V -/
theorem k115_0 : a_bl 115 0 = [o_al 0, o_al 1, o_getI 9 0, o_putI 9 0, o_al 0, o_I (J 0), o_putI 9 1, o_il 2, o_is 4, o_ft 1] := rfl
theorem k115_1 : a_bl 115 1 = [o_il 4, o_il 3, o_ic 4 2, o_al 0, o_al 1, o_getR 9 2, o_il 4, o_iald, o_al 1, o_getR 9 3, o_il 4, o_iald, o_call 114, o_iinc 4 (J 1), o_goto 1] := rfl
theorem k115_2 : a_bl 115 2 = [o_ret 0] := rfl
theorem k115_r : a_rt 115 = none := rfl
theorem k115_s {E : AEn} {hi : AHi} {hr : AHr} {n : Nat} {Q : ARs → Prop} (x0 : Nat) (x1 : Nat) (x2 : Int32) (x3 : Int32) : Sp E 115 [.ref x0, .ref x1, .int x2, .int x3] hi hr n Q ↔ Tm E 115 (a_bl 115 0) [.ref x0, .ref x1, .int x2, .int x3, a_mk] [] hi hr n Q := Iff.rfl
theorem K115 : (type_of% k115_0) ∧ (type_of% k115_2) ∧ (type_of% k115_r) ∧ (type_of% @k115_s) := ⟨k115_0, k115_2, k115_r, @k115_s⟩
theorem c115 {m : Nat} {is : List AOp} {ls st : List Value} {E : AEn} {hi : AHi} {hr : AHr} {n : Nat} {Q : ARs → Prop} (x0 : Nat) (x1 : Nat) (x2 : Int32) (x3 : Int32) : Tm E m (o_call 115 :: is) ls (.int x3 :: .int x2 :: .ref x1 :: .ref x0 :: st) hi hr n Q ↔ (a_kd x0 = 9 ∧ x0 < n ∧ st.length ≤ 4) ∧ Sp E 115 [.ref x0, .ref x1, .int x2, .int x3] hi hr n (fun r => Tm E m is ls (r.1.toList ++ st) r.2.1 r.2.2.1 r.2.2.2 Q) := T_cI [.ref x1, .int x2, .int x3] rfl rfl rfl rfl
/-! CartoonHouse$Stroke.writeTo(LCartoonHouse$Bytes;)V -/
theorem k116_0 : a_bl 116 0 = [o_al 1, o_al 0, o_getI 9 0, o_call 26, o_I (J 0), o_is 2, o_ft 1] := rfl
theorem k116_1 : a_bl 116 1 = [o_il 2, o_al 0, o_getI 9 1, o_ic 3 2, o_al 1, o_I (J 32), o_call 11, o_al 1, o_al 0, o_getR 9 2, o_il 2, o_iald, o_call 26, o_al 1, o_I (J 44), o_call 11, o_al 1, o_al 0, o_getR 9 3, o_il 2, o_iald, o_call 26, o_iinc 2 (J 1), o_goto 1] := rfl
theorem k116_2 : a_bl 116 2 = [o_al 1, o_I (J 10), o_call 11, o_ret 0] := rfl
theorem k116_r : a_rt 116 = none := rfl
theorem k116_s {E : AEn} {hi : AHi} {hr : AHr} {n : Nat} {Q : ARs → Prop} (x0 : Nat) (x1 : Nat) : Sp E 116 [.ref x0, .ref x1] hi hr n Q ↔ Tm E 116 (a_bl 116 0) [.ref x0, .ref x1, a_mk] [] hi hr n Q := Iff.rfl
theorem K116 : (type_of% k116_0) ∧ (type_of% k116_2) ∧ (type_of% k116_r) ∧ (type_of% @k116_s) := ⟨k116_0, k116_2, k116_r, @k116_s⟩
theorem c116 {m : Nat} {is : List AOp} {ls st : List Value} {E : AEn} {hi : AHi} {hr : AHr} {n : Nat} {Q : ARs → Prop} (x0 : Nat) (x1 : Nat) : Tm E m (o_call 116 :: is) ls (.ref x1 :: .ref x0 :: st) hi hr n Q ↔ (a_kd x0 = 9 ∧ x0 < n ∧ st.length ≤ 4) ∧ Sp E 116 [.ref x0, .ref x1] hi hr n (fun r => Tm E m is ls (r.1.toList ++ st) r.2.1 r.2.2.1 r.2.2.2 Q) := T_cI [.ref x1] rfl rfl rfl rfl
/-! CartoonHouse$Stroke.thinOut(I)V -/
theorem k117_0 : a_bl 117 0 = [o_I (J 1), o_is 2, o_I (J 0), o_is 3, o_I (J 0), o_is 4, o_ft 1] := rfl
theorem k117_1 : a_bl 117 1 = [o_il 4, o_I (J 10), o_ic 3 2, o_il 3, o_al 0, o_getI 9 1, o_I (J 1), o_bin 1, o_ic 3 2, o_al 0, o_il 3, o_il 1, o_call 118, o_is 3, o_al 0, o_getR 9 2, o_il 2, o_al 0, o_getR 9 2, o_il 3, o_iald, o_iast, o_al 0, o_getR 9 3, o_il 2, o_al 0, o_getR 9 3, o_il 3, o_iald, o_iast, o_iinc 2 (J 1), o_iinc 4 (J 1), o_goto 1] := rfl
theorem k117_2 : a_bl 117 2 = [o_al 0, o_il 2, o_putI 9 1, o_ret 0] := rfl
theorem k117_r : a_rt 117 = none := rfl
theorem k117_s {E : AEn} {hi : AHi} {hr : AHr} {n : Nat} {Q : ARs → Prop} (x0 : Nat) (x1 : Int32) : Sp E 117 [.ref x0, .int x1] hi hr n Q ↔ Tm E 117 (a_bl 117 0) [.ref x0, .int x1, a_mk, a_mk, a_mk] [] hi hr n Q := Iff.rfl
theorem K117 : (type_of% k117_0) ∧ (type_of% k117_2) ∧ (type_of% k117_r) ∧ (type_of% @k117_s) := ⟨k117_0, k117_2, k117_r, @k117_s⟩
theorem c117 {m : Nat} {is : List AOp} {ls st : List Value} {E : AEn} {hi : AHi} {hr : AHr} {n : Nat} {Q : ARs → Prop} (x0 : Nat) (x1 : Int32) : Tm E m (o_call 117 :: is) ls (.int x1 :: .ref x0 :: st) hi hr n Q ↔ (a_kd x0 = 9 ∧ x0 < n ∧ st.length ≤ 4) ∧ Sp E 117 [.ref x0, .int x1] hi hr n (fun r => Tm E m is ls (r.1.toList ++ st) r.2.1 r.2.2.1 r.2.2.2 Q) := T_cI [.int x1] rfl rfl rfl rfl
/-! CartoonHouse$Stroke.nextToStay(II)I -/
theorem k118_0 : a_bl 118 0 = [o_al 0, o_getI 9 1, o_I (J 1), o_bin 1, o_is 3, o_ft 1] := rfl
theorem k118_1 : a_bl 118 1 = [o_il 3, o_il 1, o_I (J 1), o_bin 0, o_ic 5 3, o_al 0, o_il 1, o_il 3, o_call 119, o_if 1 2, o_al 0, o_il 1, o_il 3, o_il 2, o_call 120, o_if 0 2, o_il 3, o_ret 1] := rfl
theorem k118_2 : a_bl 118 2 = [o_iinc 3 (J (-1)), o_goto 1] := rfl
theorem k118_3 : a_bl 118 3 = [o_il 1, o_I (J 1), o_bin 0, o_ret 1] := rfl
theorem k118_r : a_rt 118 = (some .int) := rfl
theorem k118_s {E : AEn} {hi : AHi} {hr : AHr} {n : Nat} {Q : ARs → Prop} (x0 : Nat) (x1 : Int32) (x2 : Int32) : Sp E 118 [.ref x0, .int x1, .int x2] hi hr n Q ↔ Tm E 118 (a_bl 118 0) [.ref x0, .int x1, .int x2, a_mk] [] hi hr n Q := Iff.rfl
theorem K118 : (type_of% k118_0) ∧ (type_of% k118_2) ∧ (type_of% k118_3) ∧ (type_of% k118_r) ∧ (type_of% @k118_s) := ⟨k118_0, k118_2, k118_3, k118_r, @k118_s⟩
theorem c118 {m : Nat} {is : List AOp} {ls st : List Value} {E : AEn} {hi : AHi} {hr : AHr} {n : Nat} {Q : ARs → Prop} (x0 : Nat) (x1 : Int32) (x2 : Int32) : Tm E m (o_call 118 :: is) ls (.int x2 :: .int x1 :: .ref x0 :: st) hi hr n Q ↔ (a_kd x0 = 9 ∧ x0 < n ∧ st.length ≤ 4) ∧ Sp E 118 [.ref x0, .int x1, .int x2] hi hr n (fun r => Tm E m is ls (r.1.toList ++ st) r.2.1 r.2.2.1 r.2.2.2 Q) := T_cI [.int x1, .int x2] rfl rfl rfl rfl
/-! CartoonHouse$Stroke.areAlike(II)Z -/
theorem k119_0 : a_bl 119 0 = [o_al 0, o_getR 9 2, o_il 1, o_iald, o_al 0, o_getR 9 2, o_il 2, o_iald, o_ic 1 1, o_al 0, o_getR 9 3, o_il 1, o_iald, o_al 0, o_getR 9 3, o_il 2, o_iald, o_ic 1 1, o_I (J 1), o_goto 2] := rfl
theorem k119_1 : a_bl 119 1 = [o_I (J 0), o_ft 2] := rfl
theorem k119_2 : a_bl 119 2 = [o_ret 1] := rfl
theorem k119_r : a_rt 119 = (some .boolean) := rfl
theorem k119_s {E : AEn} {hi : AHi} {hr : AHr} {n : Nat} {Q : ARs → Prop} (x0 : Nat) (x1 : Int32) (x2 : Int32) : Sp E 119 [.ref x0, .int x1, .int x2] hi hr n Q ↔ Tm E 119 (a_bl 119 0) [.ref x0, .int x1, .int x2] [] hi hr n Q := Iff.rfl
theorem K119 : (type_of% k119_0) ∧ (type_of% k119_1) ∧ (type_of% k119_2) ∧ (type_of% k119_r) ∧ (type_of% @k119_s) := ⟨k119_0, k119_1, k119_2, k119_r, @k119_s⟩
theorem c119 {m : Nat} {is : List AOp} {ls st : List Value} {E : AEn} {hi : AHi} {hr : AHr} {n : Nat} {Q : ARs → Prop} (x0 : Nat) (x1 : Int32) (x2 : Int32) : Tm E m (o_call 119 :: is) ls (.int x2 :: .int x1 :: .ref x0 :: st) hi hr n Q ↔ (a_kd x0 = 9 ∧ x0 < n ∧ st.length ≤ 4) ∧ Sp E 119 [.ref x0, .int x1, .int x2] hi hr n (fun r => Tm E m is ls (r.1.toList ++ st) r.2.1 r.2.2.1 r.2.2.2 Q) := T_cI [.int x1, .int x2] rfl rfl rfl rfl
