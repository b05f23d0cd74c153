/-! Rows of the blocks, by program (wip/whole/gen/emit_rows.py) -/
/-! CartoonHouse$Stroke.areClose(III)Z -/
theorem k120_0 : a_bl 120 0 = [o_al 0, o_getR 9 2, o_il 2, o_iald, o_al 0, o_getR 9 2, o_il 1, o_iald, o_bin 1, o_is 4, o_al 0, o_getR 9 3, o_il 2, o_iald, o_al 0, o_getR 9 3, o_il 1, o_iald, o_bin 1, o_is 5, o_il 3, o_il 3, o_bin 2, o_il 4, o_il 4, o_bin 2, o_il 5, o_il 5, o_bin 2, o_bin 0, o_bin 2, o_is 6, o_il 1, o_I (J 1), o_bin 0, o_is 7, o_ft 1] := rfl
theorem k120_1 : a_bl 120 1 = [o_il 7, o_il 2, o_ic 3 3, o_il 4, o_al 0, o_getR 9 3, o_il 7, o_iald, o_al 0, o_getR 9 3, o_il 1, o_iald, o_bin 1, o_bin 2, o_il 5, o_al 0, o_getR 9 2, o_il 7, o_iald, o_al 0, o_getR 9 2, o_il 1, o_iald, o_bin 1, o_bin 2, o_bin 1, o_is 8, o_il 8, o_il 8, o_bin 2, o_il 6, o_ic 5 2, o_I (J 0), o_ret 1] := rfl
theorem k120_2 : a_bl 120 2 = [o_iinc 7 (J 1), o_goto 1] := rfl
theorem k120_3 : a_bl 120 3 = [o_I (J 1), o_ret 1] := rfl
theorem k120_r : a_rt 120 = (some .boolean) := rfl
theorem k120_s {E : AEn} {hi : AHi} {hr : AHr} {n : Nat} {Q : ARs → Prop} (x0 : Nat) (x1 : Int32) (x2 : Int32) (x3 : Int32) : Sp E 120 [.ref x0, .int x1, .int x2, .int x3] hi hr n Q ↔ Tm E 120 (a_bl 120 0) [.ref x0, .int x1, .int x2, .int x3, a_mk, a_mk, a_mk, a_mk, a_mk] [] hi hr n Q := Iff.rfl
theorem K120 : (type_of% k120_0) ∧ (type_of% k120_2) ∧ (type_of% k120_3) ∧ (type_of% k120_r) ∧ (type_of% @k120_s) := ⟨k120_0, k120_2, k120_3, k120_r, @k120_s⟩
theorem c120 {m : Nat} {is : List AOp} {ls st : List Value} {E : AEn} {hi : AHi} {hr : AHr} {n : Nat} {Q : ARs → Prop} (x0 : Nat) (x1 : Int32) (x2 : Int32) (x3 : Int32) : Tm E m (o_call 120 :: is) ls (.int x3 :: .int x2 :: .int x1 :: .ref x0 :: st) hi hr n Q ↔ (a_kd x0 = 9 ∧ x0 < n ∧ st.length ≤ 4) ∧ Sp E 120 [.ref x0, .int x1, .int x2, .int x3] hi hr n (fun r => Tm E m is ls (r.1.toList ++ st) r.2.1 r.2.2.1 r.2.2.2 Q) := T_cI [.int x1, .int x2, .int x3] rfl rfl rfl rfl
/-! CartoonHouse$Stroke.isSegmentHit(IIII)Z -/
theorem k121_0 : a_bl 121 0 = [o_al 0, o_getR 9 2, o_il 1, o_I (J 1), o_bin 0, o_iald, o_al 0, o_getR 9 2, o_il 1, o_iald, o_bin 1, o_is 5, o_al 0, o_getR 9 3, o_il 1, o_I (J 1), o_bin 0, o_iald, o_al 0, o_getR 9 3, o_il 1, o_iald, o_bin 1, o_is 6, o_il 5, o_call 346, o_il 6, o_call 346, o_call 347, o_is 7, o_I (J 0), o_is 8, o_ft 1] := rfl
theorem k121_1 : a_bl 121 1 = [o_il 8, o_il 7, o_ic 4 3, o_al 0, o_getR 9 2, o_il 1, o_iald, o_il 8, o_il 5, o_bin 2, o_un 1, o_il 7, o_un 1, o_call 146, o_bin 0, o_is 9, o_al 0, o_getR 9 3, o_il 1, o_iald, o_il 8, o_il 6, o_bin 2, o_un 1, o_il 7, o_un 1, o_call 146, o_bin 0, o_is 10, o_il 9, o_il 2, o_bin 1, o_call 346, o_il 4, o_ic 4 2, o_il 10, o_il 3, o_bin 1, o_call 346, o_il 4, o_ic 4 2, o_I (J 1), o_ret 1] := rfl
theorem k121_2 : a_bl 121 2 = [o_iinc 8 (J 1), o_goto 1] := rfl
theorem k121_3 : a_bl 121 3 = [o_I (J 0), o_ret 1] := rfl
theorem k121_r : a_rt 121 = (some .boolean) := rfl
theorem k121_s {E : AEn} {hi : AHi} {hr : AHr} {n : Nat} {Q : ARs → Prop} (x0 : Nat) (x1 : Int32) (x2 : Int32) (x3 : Int32) (x4 : Int32) : Sp E 121 [.ref x0, .int x1, .int x2, .int x3, .int x4] hi hr n Q ↔ Tm E 121 (a_bl 121 0) [.ref x0, .int x1, .int x2, .int x3, .int x4, a_mk, a_mk, a_mk, a_mk, a_mk, a_mk] [] hi hr n Q := Iff.rfl
theorem K121 : (type_of% k121_0) ∧ (type_of% k121_2) ∧ (type_of% k121_3) ∧ (type_of% k121_r) ∧ (type_of% @k121_s) := ⟨k121_0, k121_2, k121_3, k121_r, @k121_s⟩
theorem c121 {m : Nat} {is : List AOp} {ls st : List Value} {E : AEn} {hi : AHi} {hr : AHr} {n : Nat} {Q : ARs → Prop} (x0 : Nat) (x1 : Int32) (x2 : Int32) (x3 : Int32) (x4 : Int32) : Tm E m (o_call 121 :: is) ls (.int x4 :: .int x3 :: .int x2 :: .int x1 :: .ref x0 :: st) hi hr n Q ↔ (a_kd x0 = 9 ∧ x0 < n ∧ st.length ≤ 4) ∧ Sp E 121 [.ref x0, .int x1, .int x2, .int x3, .int x4] hi hr n (fun r => Tm E m is ls (r.1.toList ++ st) r.2.1 r.2.2.1 r.2.2.2 Q) := T_cI [.int x1, .int x2, .int x3, .int x4] rfl rfl rfl rfl
/-! CartoonHouse$Stroke.meetings(LCartoonHouse$Stroke;)I -/
theorem k122_0 : a_bl 122 0 = [o_I (J 0), o_is 2, o_I (J 0), o_is 3, o_ft 1] := rfl
theorem k122_1 : a_bl 122 1 = [o_il 3, o_al 0, o_getI 9 1, o_I (J 1), o_bin 1, o_ic 3 5, o_I (J 0), o_is 4, o_ft 2] := rfl
theorem k122_2 : a_bl 122 2 = [o_il 4, o_al 1, o_getI 9 1, o_I (J 1), o_bin 1, o_ic 3 4, o_al 0, o_il 3, o_al 1, o_il 4, o_call 123, o_if 0 3, o_iinc 2 (J 1), o_ft 3] := rfl
theorem k122_3 : a_bl 122 3 = [o_iinc 4 (J 1), o_goto 2] := rfl
theorem k122_4 : a_bl 122 4 = [o_iinc 3 (J 1), o_goto 1] := rfl
theorem k122_5 : a_bl 122 5 = [o_il 2, o_ret 1] := rfl
theorem k122_r : a_rt 122 = (some .int) := rfl
theorem k122_s {E : AEn} {hi : AHi} {hr : AHr} {n : Nat} {Q : ARs → Prop} (x0 : Nat) (x1 : Nat) : Sp E 122 [.ref x0, .ref x1] hi hr n Q ↔ Tm E 122 (a_bl 122 0) [.ref x0, .ref x1, a_mk, a_mk, a_mk] [] hi hr n Q := Iff.rfl
theorem K122 : (type_of% k122_0) ∧ (type_of% k122_3) ∧ (type_of% k122_4) ∧ (type_of% k122_5) ∧ (type_of% k122_r) ∧ (type_of% @k122_s) := ⟨k122_0, k122_3, k122_4, k122_5, k122_r, @k122_s⟩
theorem c122 {m : Nat} {is : List AOp} {ls st : List Value} {E : AEn} {hi : AHi} {hr : AHr} {n : Nat} {Q : ARs → Prop} (x0 : Nat) (x1 : Nat) : Tm E m (o_call 122 :: is) ls (.ref x1 :: .ref x0 :: st) hi hr n Q ↔ (a_kd x0 = 9 ∧ x0 < n ∧ st.length ≤ 4) ∧ Sp E 122 [.ref x0, .ref x1] hi hr n (fun r => Tm E m is ls (r.1.toList ++ st) r.2.1 r.2.2.1 r.2.2.2 Q) := T_cI [.ref x1] rfl rfl rfl rfl
/-! CartoonHouse$Stroke.doMeet(ILCartoonHouse$Stroke;I)Z -/
theorem k123_0 : a_bl 123 0 = [o_al 0, o_getR 9 2, o_il 1, o_iald, o_al 0, o_getR 9 2, o_il 1, o_I (J 1), o_bin 0, o_iald, o_al 2, o_getR 9 2, o_il 3, o_iald, o_al 2, o_getR 9 2, o_il 3, o_I (J 1), o_bin 0, o_iald, o_call 124, o_if 0 1, o_al 0, o_getR 9 3, o_il 1, o_iald, o_al 0, o_getR 9 3, o_il 1, o_I (J 1), o_bin 0, o_iald, o_al 2, o_getR 9 3, o_il 3, o_iald, o_al 2, o_getR 9 3, o_il 3, o_I (J 1), o_bin 0, o_iald, o_call 124, o_if 0 1, o_al 0, o_il 1, o_al 2, o_il 3, o_call 125, o_al 0, o_il 1, o_al 2, o_il 3, o_I (J 1), o_bin 0, o_call 125, o_bin 2, o_if 4 1, o_al 2, o_il 3, o_al 0, o_il 1, o_call 125, o_al 2, o_il 3, o_al 0, o_il 1, o_I (J 1), o_bin 0, o_call 125, o_bin 2, o_if 4 1, o_I (J 1), o_goto 2] := rfl
theorem k123_1 : a_bl 123 1 = [o_I (J 0), o_ft 2] := rfl
theorem k123_2 : a_bl 123 2 = [o_ret 1] := rfl
theorem k123_r : a_rt 123 = (some .boolean) := rfl
theorem k123_s {E : AEn} {hi : AHi} {hr : AHr} {n : Nat} {Q : ARs → Prop} (x0 : Nat) (x1 : Int32) (x2 : Nat) (x3 : Int32) : Sp E 123 [.ref x0, .int x1, .ref x2, .int x3] hi hr n Q ↔ Tm E 123 (a_bl 123 0) [.ref x0, .int x1, .ref x2, .int x3] [] hi hr n Q := Iff.rfl
theorem K123 : (type_of% k123_0) ∧ (type_of% k123_1) ∧ (type_of% k123_2) ∧ (type_of% k123_r) ∧ (type_of% @k123_s) := ⟨k123_0, k123_1, k123_2, k123_r, @k123_s⟩
theorem c123 {m : Nat} {is : List AOp} {ls st : List Value} {E : AEn} {hi : AHi} {hr : AHr} {n : Nat} {Q : ARs → Prop} (x0 : Nat) (x1 : Int32) (x2 : Nat) (x3 : Int32) : Tm E m (o_call 123 :: is) ls (.int x3 :: .ref x2 :: .int x1 :: .ref x0 :: st) hi hr n Q ↔ (a_kd x0 = 9 ∧ x0 < n ∧ st.length ≤ 4) ∧ Sp E 123 [.ref x0, .int x1, .ref x2, .int x3] hi hr n (fun r => Tm E m is ls (r.1.toList ++ st) r.2.1 r.2.2.1 r.2.2.2 Q) := T_cI [.int x1, .ref x2, .int x3] rfl rfl rfl rfl
/-! CartoonHouse$Stroke.doOverlap(IIII)Z -/
theorem k124_0 : a_bl 124 0 = [o_il 0, o_il 1, o_call 349, o_il 2, o_il 3, o_call 349, o_call 347, o_il 0, o_il 1, o_call 347, o_il 2, o_il 3, o_call 347, o_call 349, o_ic 4 1, o_I (J 1), o_goto 2] := rfl
theorem k124_1 : a_bl 124 1 = [o_I (J 0), o_ft 2] := rfl
theorem k124_2 : a_bl 124 2 = [o_ret 1] := rfl
theorem k124_r : a_rt 124 = (some .boolean) := rfl
theorem k124_s {E : AEn} {hi : AHi} {hr : AHr} {n : Nat} {Q : ARs → Prop} (x0 : Int32) (x1 : Int32) (x2 : Int32) (x3 : Int32) : Sp E 124 [.int x0, .int x1, .int x2, .int x3] hi hr n Q ↔ Tm E 124 (a_bl 124 0) [.int x0, .int x1, .int x2, .int x3] [] hi hr n Q := Iff.rfl
theorem K124 : (type_of% k124_0) ∧ (type_of% k124_1) ∧ (type_of% k124_2) ∧ (type_of% k124_r) ∧ (type_of% @k124_s) := ⟨k124_0, k124_1, k124_2, k124_r, @k124_s⟩
theorem c124 {m : Nat} {is : List AOp} {ls st : List Value} {E : AEn} {hi : AHi} {hr : AHr} {n : Nat} {Q : ARs → Prop} (x0 : Int32) (x1 : Int32) (x2 : Int32) (x3 : Int32) : Tm E m (o_call 124 :: is) ls (.int x3 :: .int x2 :: .int x1 :: .int x0 :: st) hi hr n Q ↔ st.length ≤ 4 ∧ Sp E 124 [.int x0, .int x1, .int x2, .int x3] hi hr n (fun r => Tm E m is ls (r.1.toList ++ st) r.2.1 r.2.2.1 r.2.2.2 Q) := T_cS [.int x0, .int x1, .int x2, .int x3] rfl rfl
/-! CartoonHouse$Stroke.sideOf(ILCartoonHouse$Stroke;I)I -/
theorem k125_0 : a_bl 125 0 = [o_al 0, o_getR 9 2, o_il 1, o_I (J 1), o_bin 0, o_iald, o_al 0, o_getR 9 2, o_il 1, o_iald, o_bin 1, o_al 2, o_getR 9 3, o_il 3, o_iald, o_al 0, o_getR 9 3, o_il 1, o_iald, o_bin 1, o_bin 2, o_al 0, o_getR 9 3, o_il 1, o_I (J 1), o_bin 0, o_iald, o_al 0, o_getR 9 3, o_il 1, o_iald, o_bin 1, o_al 2, o_getR 9 2, o_il 3, o_iald, o_al 0, o_getR 9 2, o_il 1, o_iald, o_bin 1, o_bin 2, o_bin 1, o_ret 1] := rfl
theorem k125_r : a_rt 125 = (some .int) := rfl
theorem k125_s {E : AEn} {hi : AHi} {hr : AHr} {n : Nat} {Q : ARs → Prop} (x0 : Nat) (x1 : Int32) (x2 : Nat) (x3 : Int32) : Sp E 125 [.ref x0, .int x1, .ref x2, .int x3] hi hr n Q ↔ Tm E 125 (a_bl 125 0) [.ref x0, .int x1, .ref x2, .int x3] [] hi hr n Q := Iff.rfl
theorem K125 : (type_of% k125_0) ∧ (type_of% k125_r) ∧ (type_of% @k125_s) := ⟨k125_0, k125_r, @k125_s⟩
theorem c125 {m : Nat} {is : List AOp} {ls st : List Value} {E : AEn} {hi : AHi} {hr : AHr} {n : Nat} {Q : ARs → Prop} (x0 : Nat) (x1 : Int32) (x2 : Nat) (x3 : Int32) : Tm E m (o_call 125 :: is) ls (.int x3 :: .ref x2 :: .int x1 :: .ref x0 :: st) hi hr n Q ↔ (a_kd x0 = 9 ∧ x0 < n ∧ st.length ≤ 4) ∧ Sp E 125 [.ref x0, .int x1, .ref x2, .int x3] hi hr n (fun r => Tm E m is ls (r.1.toList ++ st) r.2.1 r.2.2.1 r.2.2.2 Q) := T_cI [.int x1, .ref x2, .int x3] rfl rfl rfl rfl
/-! CartoonHouse$Stroke.twiceTheArea()I -/
theorem k126_0 : a_bl 126 0 = [o_I (J 0), o_is 1, o_I (J 0), o_is 2, o_ft 1] := rfl
theorem k126_1 : a_bl 126 1 = [o_il 2, o_al 0, o_getI 9 1, o_ic 3 4, o_il 2, o_I (J 1), o_bin 0, o_al 0, o_getI 9 1, o_ic 3 2, o_il 2, o_I (J 1), o_bin 0, o_goto 3] := rfl
theorem k126_2 : a_bl 126 2 = [o_I (J 0), o_ft 3] := rfl
theorem k126_3 : a_bl 126 3 = [o_is 3, o_il 1, o_al 0, o_getR 9 2, o_il 2, o_iald, o_al 0, o_getR 9 3, o_il 3, o_iald, o_bin 2, o_al 0, o_getR 9 2, o_il 3, o_iald, o_al 0, o_getR 9 3, o_il 2, o_iald, o_bin 2, o_bin 1, o_bin 0, o_is 1, o_iinc 2 (J 1), o_goto 1] := rfl
theorem k126_4 : a_bl 126 4 = [o_il 1, o_ret 1] := rfl
theorem k126_r : a_rt 126 = (some .int) := rfl
theorem k126_s {E : AEn} {hi : AHi} {hr : AHr} {n : Nat} {Q : ARs → Prop} (x0 : Nat) : Sp E 126 [.ref x0] hi hr n Q ↔ Tm E 126 (a_bl 126 0) [.ref x0, a_mk, a_mk, a_mk] [] hi hr n Q := Iff.rfl
theorem K126 : (type_of% k126_0) ∧ (type_of% k126_2) ∧ (type_of% k126_3) ∧ (type_of% k126_4) ∧ (type_of% k126_r) ∧ (type_of% @k126_s) := ⟨k126_0, k126_2, k126_3, k126_4, k126_r, @k126_s⟩
theorem c126 {m : Nat} {is : List AOp} {ls st : List Value} {E : AEn} {hi : AHi} {hr : AHr} {n : Nat} {Q : ARs → Prop} (x0 : Nat) : Tm E m (o_call 126 :: is) ls (.ref x0 :: st) hi hr n Q ↔ (a_kd x0 = 9 ∧ x0 < n ∧ st.length ≤ 4) ∧ Sp E 126 [.ref x0] hi hr n (fun r => Tm E m is ls (r.1.toList ++ st) r.2.1 r.2.2.1 r.2.2.2 Q) := T_cI [] rfl rfl rfl rfl
/-! CartoonHouse$Stroke.costWith(LCartoonHouse$Stroke;)I -/
theorem k127_0 : a_bl 127 0 = [o_al 0, o_I (J 0), o_al 1, o_I (J 0), o_call 128, o_al 0, o_al 0, o_getI 9 1, o_I (J 1), o_bin 1, o_al 1, o_al 1, o_getI 9 1, o_I (J 1), o_bin 1, o_call 128, o_bin 0, o_is 2, o_al 0, o_getI 9 0, o_al 1, o_getI 9 0, o_ic 1 1, o_il 2, o_goto 2] := rfl
theorem k127_1 : a_bl 127 1 = [o_il 2, o_I (J 100), o_bin 0, o_ft 2] := rfl
theorem k127_2 : a_bl 127 2 = [o_ret 1] := rfl
theorem k127_r : a_rt 127 = (some .int) := rfl
theorem k127_s {E : AEn} {hi : AHi} {hr : AHr} {n : Nat} {Q : ARs → Prop} (x0 : Nat) (x1 : Nat) : Sp E 127 [.ref x0, .ref x1] hi hr n Q ↔ Tm E 127 (a_bl 127 0) [.ref x0, .ref x1, a_mk] [] hi hr n Q := Iff.rfl
theorem K127 : (type_of% k127_0) ∧ (type_of% k127_1) ∧ (type_of% k127_2) ∧ (type_of% k127_r) ∧ (type_of% @k127_s) := ⟨k127_0, k127_1, k127_2, k127_r, @k127_s⟩
theorem c127 {m : Nat} {is : List AOp} {ls st : List Value} {E : AEn} {hi : AHi} {hr : AHr} {n : Nat} {Q : ARs → Prop} (x0 : Nat) (x1 : Nat) : Tm E m (o_call 127 :: is) ls (.ref x1 :: .ref x0 :: st) hi hr n Q ↔ (a_kd x0 = 9 ∧ x0 < n ∧ st.length ≤ 4) ∧ Sp E 127 [.ref x0, .ref x1] hi hr n (fun r => Tm E m is ls (r.1.toList ++ st) r.2.1 r.2.2.1 r.2.2.2 Q) := T_cI [.ref x1] rfl rfl rfl rfl
/-! CartoonHouse$Stroke.distance(ILCartoonHouse$Stroke;I)I -/
theorem k128_0 : a_bl 128 0 = [o_il 1, o_if 2 1, o_il 3, o_if 3 2, o_ft 1] := rfl
theorem k128_1 : a_bl 128 1 = [o_I (J 0), o_ret 1] := rfl
theorem k128_2 : a_bl 128 2 = [o_al 0, o_getR 9 2, o_il 1, o_iald, o_al 2, o_getR 9 2, o_il 3, o_iald, o_bin 1, o_is 4, o_al 0, o_getR 9 3, o_il 1, o_iald, o_al 2, o_getR 9 3, o_il 3, o_iald, o_bin 1, o_is 5, o_il 4, o_il 4, o_bin 2, o_il 5, o_il 5, o_bin 2, o_bin 0, o_ret 1] := rfl
theorem k128_r : a_rt 128 = (some .int) := rfl
theorem k128_s {E : AEn} {hi : AHi} {hr : AHr} {n : Nat} {Q : ARs → Prop} (x0 : Nat) (x1 : Int32) (x2 : Nat) (x3 : Int32) : Sp E 128 [.ref x0, .int x1, .ref x2, .int x3] hi hr n Q ↔ Tm E 128 (a_bl 128 0) [.ref x0, .int x1, .ref x2, .int x3, a_mk, a_mk] [] hi hr n Q := Iff.rfl
theorem K128 : (type_of% k128_0) ∧ (type_of% k128_1) ∧ (type_of% k128_2) ∧ (type_of% k128_r) ∧ (type_of% @k128_s) := ⟨k128_0, k128_1, k128_2, k128_r, @k128_s⟩
theorem c128 {m : Nat} {is : List AOp} {ls st : List Value} {E : AEn} {hi : AHi} {hr : AHr} {n : Nat} {Q : ARs → Prop} (x0 : Nat) (x1 : Int32) (x2 : Nat) (x3 : Int32) : Tm E m (o_call 128 :: is) ls (.int x3 :: .ref x2 :: .int x1 :: .ref x0 :: st) hi hr n Q ↔ (a_kd x0 = 9 ∧ x0 < n ∧ st.length ≤ 4) ∧ Sp E 128 [.ref x0, .int x1, .ref x2, .int x3] hi hr n (fun r => Tm E m is ls (r.1.toList ++ st) r.2.1 r.2.2.1 r.2.2.2 Q) := T_cI [.int x1, .ref x2, .int x3] rfl rfl rfl rfl
/-! CartoonHouse$Stroke.becomeBetween(LCartoonHouse$Stroke;LCartoonHouse$Stroke;II)V -/
theorem k129_0 : a_bl 129 0 = [o_al 0, o_I (J 2), o_il 3, o_bin 2, o_il 4, o_ic 3 1, o_al 1, o_getI 9 0, o_goto 2] := rfl
theorem k129_1 : a_bl 129 1 = [o_al 2, o_getI 9 0, o_ft 2] := rfl
theorem k129_2 : a_bl 129 2 = [o_putI 9 0, o_al 0, o_I (J 0), o_putI 9 1, o_al 1, o_getI 9 1, o_al 2, o_getI 9 1, o_call 347, o_I (J 1), o_bin 1, o_is 5, o_I (J 0), o_is 6, o_ft 3] := rfl
theorem k129_3 : a_bl 129 3 = [o_il 6, o_il 5, o_ic 4 5, o_al 1, o_getR 9 2, o_al 1, o_getI 9 1, o_il 6, o_il 5, o_call 130, o_un 1, o_lst 7, o_al 1, o_getR 9 3, o_al 1, o_getI 9 1, o_il 6, o_il 5, o_call 130, o_un 1, o_lst 9, o_al 2, o_getR 9 2, o_al 2, o_getI 9 1, o_il 6, o_il 5, o_call 130, o_un 1, o_lst 11, o_al 2, o_getR 9 3, o_al 2, o_getI 9 1, o_il 6, o_il 5, o_call 130, o_un 1, o_lst 13, o_ll 7, o_il 4, o_il 3, o_bin 1, o_un 1, o_binL 2, o_ll 11, o_il 3, o_un 1, o_binL 2, o_binL 0, o_il 5, o_un 1, o_il 4, o_un 1, o_binL 2, o_call 146, o_is 15, o_ll 9, o_il 4, o_il 3, o_bin 1, o_un 1, o_binL 2, o_ll 13, o_il 3, o_un 1, o_binL 2, o_binL 0, o_il 5, o_un 1, o_il 4, o_un 1, o_binL 2, o_call 146, o_is 16, o_al 0, o_il 15, o_il 16, o_call 113, o_if 1 4, o_al 0, o_il 15, o_il 16, o_call 114, o_ft 4] := rfl
theorem k129_4 : a_bl 129 4 = [o_iinc 6 (J 1), o_goto 3] := rfl
theorem k129_5 : a_bl 129 5 = [o_ret 0] := rfl
theorem k129_r : a_rt 129 = none := rfl
theorem k129_s {E : AEn} {hi : AHi} {hr : AHr} {n : Nat} {Q : ARs → Prop} (x0 : Nat) (x1 : Nat) (x2 : Nat) (x3 : Int32) (x4 : Int32) : Sp E 129 [.ref x0, .ref x1, .ref x2, .int x3, .int x4] hi hr n Q ↔ Tm E 129 (a_bl 129 0) [.ref x0, .ref x1, .ref x2, .int x3, .int x4, a_mk, a_mk, a_mk, a_mk, a_mk, a_mk, a_mk, a_mk, a_mk, a_mk, a_mk, a_mk] [] hi hr n Q := Iff.rfl
theorem K129 : (type_of% k129_0) ∧ (type_of% k129_1) ∧ (type_of% k129_2) ∧ (type_of% k129_4) ∧ (type_of% k129_5) ∧ (type_of% k129_r) ∧ (type_of% @k129_s) := ⟨k129_0, k129_1, k129_2, k129_4, k129_5, k129_r, @k129_s⟩
theorem c129 {m : Nat} {is : List AOp} {ls st : List Value} {E : AEn} {hi : AHi} {hr : AHr} {n : Nat} {Q : ARs → Prop} (x0 : Nat) (x1 : Nat) (x2 : Nat) (x3 : Int32) (x4 : Int32) : Tm E m (o_call 129 :: is) ls (.int x4 :: .int x3 :: .ref x2 :: .ref x1 :: .ref x0 :: st) hi hr n Q ↔ (a_kd x0 = 9 ∧ x0 < n ∧ st.length ≤ 4) ∧ Sp E 129 [.ref x0, .ref x1, .ref x2, .int x3, .int x4] hi hr n (fun r => Tm E m is ls (r.1.toList ++ st) r.2.1 r.2.2.1 r.2.2.2 Q) := T_cI [.ref x1, .ref x2, .int x3, .int x4] rfl rfl rfl rfl
/-! CartoonHouse$Stroke.spread([IIII)I -/
theorem k130_0 : a_bl 130 0 = [o_il 3, o_if 4 1, o_I (J 0), o_ret 1] := rfl
theorem k130_1 : a_bl 130 1 = [o_il 2, o_il 1, o_I (J 1), o_bin 1, o_bin 2, o_il 3, o_bin 9, o_is 4, o_il 2, o_il 1, o_I (J 1), o_bin 1, o_bin 2, o_il 3, o_bin 10, o_is 5, o_il 5, o_if 1 2, o_al 0, o_il 4, o_iald, o_il 3, o_bin 2, o_goto 3] := rfl
theorem k130_2 : a_bl 130 2 = [o_al 0, o_il 4, o_iald, o_il 3, o_bin 2, o_al 0, o_il 4, o_I (J 1), o_bin 0, o_iald, o_al 0, o_il 4, o_iald, o_bin 1, o_il 5, o_bin 2, o_bin 0, o_ft 3] := rfl
theorem k130_3 : a_bl 130 3 = [o_ret 1] := rfl
theorem k130_r : a_rt 130 = (some .int) := rfl
theorem k130_s {E : AEn} {hi : AHi} {hr : AHr} {n : Nat} {Q : ARs → Prop} (x0 : Nat) (x1 : Int32) (x2 : Int32) (x3 : Int32) : Sp E 130 [.ref x0, .int x1, .int x2, .int x3] hi hr n Q ↔ Tm E 130 (a_bl 130 0) [.ref x0, .int x1, .int x2, .int x3, a_mk, a_mk] [] hi hr n Q := Iff.rfl
theorem K130 : (type_of% k130_0) ∧ (type_of% k130_1) ∧ (type_of% k130_2) ∧ (type_of% k130_3) ∧ (type_of% k130_r) ∧ (type_of% @k130_s) := ⟨k130_0, k130_1, k130_2, k130_3, k130_r, @k130_s⟩
theorem c130 {m : Nat} {is : List AOp} {ls st : List Value} {E : AEn} {hi : AHi} {hr : AHr} {n : Nat} {Q : ARs → Prop} (x0 : Nat) (x1 : Int32) (x2 : Int32) (x3 : Int32) : Tm E m (o_call 130 :: is) ls (.int x3 :: .int x2 :: .int x1 :: .ref x0 :: st) hi hr n Q ↔ st.length ≤ 4 ∧ Sp E 130 [.ref x0, .int x1, .int x2, .int x3] hi hr n (fun r => Tm E m is ls (r.1.toList ++ st) r.2.1 r.2.2.1 r.2.2.2 Q) := T_cS [.ref x0, .int x1, .int x2, .int x3] rfl rfl
/-! CartoonHouse$Stroke.becomeWiggled(LCartoonHouse$Stroke;ILCartoonHouse$Layer;I)V -/
theorem k131_0 : a_bl 131 0 = [o_al 0, o_al 1, o_getI 9 0, o_putI 9 0, o_al 0, o_al 1, o_getI 9 1, o_putI 9 1, o_I (J 0), o_is 5, o_ft 1] := rfl
theorem k131_1 : a_bl 131 1 = [o_il 5, o_al 0, o_getI 9 1, o_ic 3 2, o_al 0, o_getR 9 2, o_il 5, o_al 1, o_getR 9 2, o_il 5, o_iald, o_al 3, o_il 4, o_il 2, o_il 5, o_I (J 0), o_call 67, o_bin 0, o_I (J 47), o_call 201, o_iast, o_al 0, o_getR 9 3, o_il 5, o_al 1, o_getR 9 3, o_il 5, o_iald, o_al 3, o_il 4, o_il 2, o_il 5, o_I (J 1), o_call 67, o_bin 0, o_I (J 31), o_call 201, o_iast, o_iinc 5 (J 1), o_goto 1] := rfl
theorem k131_2 : a_bl 131 2 = [o_ret 0] := rfl
theorem k131_r : a_rt 131 = none := rfl
theorem k131_s {E : AEn} {hi : AHi} {hr : AHr} {n : Nat} {Q : ARs → Prop} (x0 : Nat) (x1 : Nat) (x2 : Int32) (x3 : Nat) (x4 : Int32) : Sp E 131 [.ref x0, .ref x1, .int x2, .ref x3, .int x4] hi hr n Q ↔ Tm E 131 (a_bl 131 0) [.ref x0, .ref x1, .int x2, .ref x3, .int x4, a_mk] [] hi hr n Q := Iff.rfl
theorem K131 : (type_of% k131_0) ∧ (type_of% k131_2) ∧ (type_of% k131_r) ∧ (type_of% @k131_s) := ⟨k131_0, k131_2, k131_r, @k131_s⟩
theorem c131 {m : Nat} {is : List AOp} {ls st : List Value} {E : AEn} {hi : AHi} {hr : AHr} {n : Nat} {Q : ARs → Prop} (x0 : Nat) (x1 : Nat) (x2 : Int32) (x3 : Nat) (x4 : Int32) : Tm E m (o_call 131 :: is) ls (.int x4 :: .ref x3 :: .int x2 :: .ref x1 :: .ref x0 :: st) hi hr n Q ↔ (a_kd x0 = 9 ∧ x0 < n ∧ st.length ≤ 4) ∧ Sp E 131 [.ref x0, .ref x1, .int x2, .ref x3, .int x4] hi hr n (fun r => Tm E m is ls (r.1.toList ++ st) r.2.1 r.2.2.1 r.2.2.2 Q) := T_cI [.ref x1, .int x2, .ref x3, .int x4] rfl rfl rfl rfl
/-! CartoonHouse.<init>()V -/
theorem k132_0 : a_bl 132 0 = [o_al 0, o_obj, o_al 0, o_new 1, o_dup, o_I (J 1600), o_call 8, o_putR 10 0, o_al 0, o_new 1, o_dup, o_I (J 512), o_call 8, o_putR 10 1, o_al 0, o_I (J 16), o_anew 33, o_putR 10 2, o_al 0, o_new 3, o_dup, o_call 38, o_putR 10 3, o_al 0, o_new 2, o_dup, o_call 29, o_putR 10 4, o_al 0, o_I (J 4), o_I (J 16), o_mna, o_putR 10 5, o_al 0, o_I (J 4), o_anew 35, o_putR 10 6, o_al 0, o_new 7, o_dup, o_call 79, o_putR 10 7, o_al 0, o_I (J 10), o_anew 30, o_putR 10 8, o_al 0, o_new 0, o_dup, o_call 0, o_putR 10 9, o_al 0, o_I (J 24), o_putI 10 11, o_al 0, o_I (J 16), o_putI 10 12, o_al 0, o_new 6, o_dup, o_call 68, o_putR 10 13, o_al 0, o_I (J 3), o_anew 34, o_putR 10 14, o_al 0, o_new 8, o_dup, o_call 89, o_putR 10 15, o_al 0, o_I (J 4), o_I (J 100), o_mna, o_putR 10 16, o_al 0, o_I (J 3), o_newa 20, o_putR 10 17, o_al 0, o_I (J 3), o_newa 20, o_putR 10 18, o_I (J 0), o_is 1, o_ft 1] := rfl
theorem k132_1 : a_bl 132 1 = [o_il 1, o_I (J 16), o_ic 3 2, o_al 0, o_getR 10 2, o_il 1, o_new 3, o_dup, o_call 38, o_aast, o_iinc 1 (J 1), o_goto 1] := rfl
theorem k132_2 : a_bl 132 2 = [o_I (J 0), o_is 1, o_ft 3] := rfl
theorem k132_3 : a_bl 132 3 = [o_il 1, o_I (J 4), o_ic 3 4, o_al 0, o_getR 10 6, o_il 1, o_new 5, o_dup, o_call 57, o_aast, o_iinc 1 (J 1), o_goto 3] := rfl
theorem k132_4 : a_bl 132 4 = [o_I (J 0), o_is 1, o_ft 5] := rfl
theorem k132_5 : a_bl 132 5 = [o_il 1, o_I (J 10), o_ic 3 6, o_al 0, o_getR 10 8, o_il 1, o_new 0, o_dup, o_call 0, o_aast, o_iinc 1 (J 1), o_goto 5] := rfl
theorem k132_6 : a_bl 132 6 = [o_I (J 0), o_is 1, o_ft 7] := rfl
theorem k132_7 : a_bl 132 7 = [o_il 1, o_al 0, o_getR 10 14, o_alen, o_ic 3 8, o_al 0, o_getR 10 14, o_il 1, o_new 4, o_dup, o_I (J 8), o_call 50, o_aast, o_iinc 1 (J 1), o_goto 7] := rfl
theorem k132_8 : a_bl 132 8 = [o_I (J 0), o_is 1, o_ft 9] := rfl
theorem k132_9 : a_bl 132 9 = [o_il 1, o_I (J 4), o_ic 3 12, o_I (J 1), o_is 2, o_ft 10] := rfl
theorem k132_10 : a_bl 132 10 = [o_il 2, o_I (J 15), o_ic 4 11, o_al 0, o_getR 10 5, o_il 1, o_aald, o_il 2, o_il 2, o_I (J 1118481), o_bin 2, o_iast, o_iinc 2 (J 1), o_goto 10] := rfl
theorem k132_11 : a_bl 132 11 = [o_iinc 1 (J 1), o_goto 9] := rfl
theorem k132_12 : a_bl 132 12 = [o_ret 0] := rfl
theorem k132_r : a_rt 132 = none := rfl
theorem k132_s {E : AEn} {hi : AHi} {hr : AHr} {n : Nat} {Q : ARs → Prop} (x0 : Nat) : Sp E 132 [.ref x0] hi hr n Q ↔ Tm E 132 (a_bl 132 0) [.ref x0, a_mk, a_mk] [] hi hr n Q := Iff.rfl
theorem K132 : (type_of% k132_0) ∧ (type_of% k132_2) ∧ (type_of% k132_4) ∧ (type_of% k132_6) ∧ (type_of% k132_8) ∧ (type_of% k132_11) ∧ (type_of% k132_12) ∧ (type_of% k132_r) ∧ (type_of% @k132_s) := ⟨k132_0, k132_2, k132_4, k132_6, k132_8, k132_11, k132_12, k132_r, @k132_s⟩
theorem c132 {m : Nat} {is : List AOp} {ls st : List Value} {E : AEn} {hi : AHi} {hr : AHr} {n : Nat} {Q : ARs → Prop} (x0 : Nat) : Tm E m (o_call 132 :: is) ls (.ref x0 :: st) hi hr n Q ↔ (a_kd x0 = 10 ∧ x0 < n ∧ st.length ≤ 4) ∧ Sp E 132 [.ref x0] hi hr n (fun r => Tm E m is ls (r.1.toList ++ st) r.2.1 r.2.2.1 r.2.2.2 Q) := T_cI [] rfl rfl rfl rfl
/-! CartoonHouse.feed(IIIII)I -/
theorem k133_0 : a_bl 133 0 = [o_al 0, o_getR 10 0, o_I (J 20), o_call 9, o_if 1 1, o_I (J (-4)), o_ret 1] := rfl
theorem k133_1 : a_bl 133 1 = [o_al 0, o_getR 10 0, o_il 1, o_call 10, o_al 0, o_getR 10 0, o_il 2, o_call 10, o_al 0, o_getR 10 0, o_il 3, o_call 10, o_al 0, o_getR 10 0, o_il 4, o_call 10, o_al 0, o_getR 10 0, o_il 5, o_call 10, o_al 0, o_getR 10 0, o_getI 1 1, o_ret 1] := rfl
theorem k133_r : a_rt 133 = (some .int) := rfl
theorem k133_s {E : AEn} {hi : AHi} {hr : AHr} {n : Nat} {Q : ARs → Prop} (x0 : Nat) (x1 : Int32) (x2 : Int32) (x3 : Int32) (x4 : Int32) (x5 : Int32) : Sp E 133 [.ref x0, .int x1, .int x2, .int x3, .int x4, .int x5] hi hr n Q ↔ Tm E 133 (a_bl 133 0) [.ref x0, .int x1, .int x2, .int x3, .int x4, .int x5] [] hi hr n Q := Iff.rfl
theorem K133 : (type_of% k133_0) ∧ (type_of% k133_1) ∧ (type_of% k133_r) ∧ (type_of% @k133_s) := ⟨k133_0, k133_1, k133_r, @k133_s⟩
theorem c133 {m : Nat} {is : List AOp} {ls st : List Value} {E : AEn} {hi : AHi} {hr : AHr} {n : Nat} {Q : ARs → Prop} (x0 : Nat) (x1 : Int32) (x2 : Int32) (x3 : Int32) (x4 : Int32) (x5 : Int32) : Tm E m (o_call 133 :: is) ls (.int x5 :: .int x4 :: .int x3 :: .int x2 :: .int x1 :: .ref x0 :: st) hi hr n Q ↔ (a_kd x0 = 10 ∧ x0 < n ∧ st.length ≤ 4) ∧ Sp E 133 [.ref x0, .int x1, .int x2, .int x3, .int x4, .int x5] hi hr n (fun r => Tm E m is ls (r.1.toList ++ st) r.2.1 r.2.2.1 r.2.2.2 Q) := T_cI [.int x1, .int x2, .int x3, .int x4, .int x5] rfl rfl rfl rfl
/-! CartoonHouse.end(I)I -/
theorem k134_0 : a_bl 134 0 = [o_il 1, o_if 2 1, o_il 1, o_al 0, o_getR 10 0, o_getI 1 1, o_ic 5 2, o_ft 1] := rfl
theorem k134_1 : a_bl 134 1 = [o_I (J (-1)), o_ret 1] := rfl
theorem k134_2 : a_bl 134 2 = [o_al 0, o_getR 10 0, o_il 1, o_putI 1 1, o_il 1, o_ret 1] := rfl
theorem k134_r : a_rt 134 = (some .int) := rfl
theorem k134_s {E : AEn} {hi : AHi} {hr : AHr} {n : Nat} {Q : ARs → Prop} (x0 : Nat) (x1 : Int32) : Sp E 134 [.ref x0, .int x1] hi hr n Q ↔ Tm E 134 (a_bl 134 0) [.ref x0, .int x1] [] hi hr n Q := Iff.rfl
theorem K134 : (type_of% k134_0) ∧ (type_of% k134_1) ∧ (type_of% k134_2) ∧ (type_of% k134_r) ∧ (type_of% @k134_s) := ⟨k134_0, k134_1, k134_2, k134_r, @k134_s⟩
theorem c134 {m : Nat} {is : List AOp} {ls st : List Value} {E : AEn} {hi : AHi} {hr : AHr} {n : Nat} {Q : ARs → Prop} (x0 : Nat) (x1 : Int32) : Tm E m (o_call 134 :: is) ls (.int x1 :: .ref x0 :: st) hi hr n Q ↔ (a_kd x0 = 10 ∧ x0 < n ∧ st.length ≤ 4) ∧ Sp E 134 [.ref x0, .int x1] hi hr n (fun r => Tm E m is ls (r.1.toList ++ st) r.2.1 r.2.2.1 r.2.2.2 Q) := T_cI [.int x1] rfl rfl rfl rfl
/-! CartoonHouse.out(I)I -/
theorem k135_0 : a_bl 135 0 = [o_al 0, o_getR 10 1, o_il 1, o_call 12, o_ret 1] := rfl
theorem k135_r : a_rt 135 = (some .int) := rfl
theorem k135_s {E : AEn} {hi : AHi} {hr : AHr} {n : Nat} {Q : ARs → Prop} (x0 : Nat) (x1 : Int32) : Sp E 135 [.ref x0, .int x1] hi hr n Q ↔ Tm E 135 (a_bl 135 0) [.ref x0, .int x1] [] hi hr n Q := Iff.rfl
theorem K135 : (type_of% k135_0) ∧ (type_of% k135_r) ∧ (type_of% @k135_s) := ⟨k135_0, k135_r, @k135_s⟩
theorem c135 {m : Nat} {is : List AOp} {ls st : List Value} {E : AEn} {hi : AHi} {hr : AHr} {n : Nat} {Q : ARs → Prop} (x0 : Nat) (x1 : Int32) : Tm E m (o_call 135 :: is) ls (.int x1 :: .ref x0 :: st) hi hr n Q ↔ (a_kd x0 = 10 ∧ x0 < n ∧ st.length ≤ 4) ∧ Sp E 135 [.ref x0, .int x1] hi hr n (fun r => Tm E m is ls (r.1.toList ++ st) r.2.1 r.2.2.1 r.2.2.2 Q) := T_cI [.int x1] rfl rfl rfl rfl
/-! CartoonHouse.stroke(I)I -/
theorem k136_0 : a_bl 136 0 = [o_il 1, o_call 137, o_if 0 1, o_al 0, o_al 0, o_getR 10 2, o_il 1, o_aald, o_call 139, o_goto 2] := rfl
theorem k136_1 : a_bl 136 1 = [o_I (J (-1)), o_ft 2] := rfl
theorem k136_2 : a_bl 136 2 = [o_is 2, o_al 0, o_getR 10 0, o_call 25, o_il 2, o_ret 1] := rfl
theorem k136_r : a_rt 136 = (some .int) := rfl
theorem k136_s {E : AEn} {hi : AHi} {hr : AHr} {n : Nat} {Q : ARs → Prop} (x0 : Nat) (x1 : Int32) : Sp E 136 [.ref x0, .int x1] hi hr n Q ↔ Tm E 136 (a_bl 136 0) [.ref x0, .int x1, a_mk] [] hi hr n Q := Iff.rfl
theorem K136 : (type_of% k136_0) ∧ (type_of% k136_1) ∧ (type_of% k136_2) ∧ (type_of% k136_r) ∧ (type_of% @k136_s) := ⟨k136_0, k136_1, k136_2, k136_r, @k136_s⟩
theorem c136 {m : Nat} {is : List AOp} {ls st : List Value} {E : AEn} {hi : AHi} {hr : AHr} {n : Nat} {Q : ARs → Prop} (x0 : Nat) (x1 : Int32) : Tm E m (o_call 136 :: is) ls (.int x1 :: .ref x0 :: st) hi hr n Q ↔ (a_kd x0 = 10 ∧ x0 < n ∧ st.length ≤ 4) ∧ Sp E 136 [.ref x0, .int x1] hi hr n (fun r => Tm E m is ls (r.1.toList ++ st) r.2.1 r.2.2.1 r.2.2.2 Q) := T_cI [.int x1] rfl rfl rfl rfl
/-! CartoonHouse.isDrawing(I)Z -/
theorem k137_0 : a_bl 137 0 = [o_il 0, o_I (J 0), o_I (J 15), o_call 138, o_ret 1] := rfl
theorem k137_r : a_rt 137 = (some .boolean) := rfl
theorem k137_s {E : AEn} {hi : AHi} {hr : AHr} {n : Nat} {Q : ARs → Prop} (x0 : Int32) : Sp E 137 [.int x0] hi hr n Q ↔ Tm E 137 (a_bl 137 0) [.int x0] [] hi hr n Q := Iff.rfl
theorem K137 : (type_of% k137_0) ∧ (type_of% k137_r) ∧ (type_of% @k137_s) := ⟨k137_0, k137_r, @k137_s⟩
theorem c137 {m : Nat} {is : List AOp} {ls st : List Value} {E : AEn} {hi : AHi} {hr : AHr} {n : Nat} {Q : ARs → Prop} (x0 : Int32) : Tm E m (o_call 137 :: is) ls (.int x0 :: st) hi hr n Q ↔ st.length ≤ 4 ∧ Sp E 137 [.int x0] hi hr n (fun r => Tm E m is ls (r.1.toList ++ st) r.2.1 r.2.2.1 r.2.2.2 Q) := T_cS [.int x0] rfl rfl
/-! CartoonHouse.isWithin(III)Z -/
theorem k138_0 : a_bl 138 0 = [o_il 1, o_il 0, o_ic 4 1, o_il 0, o_il 2, o_ic 4 1, o_I (J 1), o_goto 2] := rfl
theorem k138_1 : a_bl 138 1 = [o_I (J 0), o_ft 2] := rfl
theorem k138_2 : a_bl 138 2 = [o_ret 1] := rfl
theorem k138_r : a_rt 138 = (some .boolean) := rfl
theorem k138_s {E : AEn} {hi : AHi} {hr : AHr} {n : Nat} {Q : ARs → Prop} (x0 : Int32) (x1 : Int32) (x2 : Int32) : Sp E 138 [.int x0, .int x1, .int x2] hi hr n Q ↔ Tm E 138 (a_bl 138 0) [.int x0, .int x1, .int x2] [] hi hr n Q := Iff.rfl
theorem K138 : (type_of% k138_0) ∧ (type_of% k138_1) ∧ (type_of% k138_2) ∧ (type_of% k138_r) ∧ (type_of% @k138_s) := ⟨k138_0, k138_1, k138_2, k138_r, @k138_s⟩
theorem c138 {m : Nat} {is : List AOp} {ls st : List Value} {E : AEn} {hi : AHi} {hr : AHr} {n : Nat} {Q : ARs → Prop} (x0 : Int32) (x1 : Int32) (x2 : Int32) : Tm E m (o_call 138 :: is) ls (.int x2 :: .int x1 :: .int x0 :: st) hi hr n Q ↔ st.length ≤ 4 ∧ Sp E 138 [.int x0, .int x1, .int x2] hi hr n (fun r => Tm E m is ls (r.1.toList ++ st) r.2.1 r.2.2.1 r.2.2.2 Q) := T_cS [.int x0, .int x1, .int x2] rfl rfl
/-! CartoonHouse.readStroke(LCartoonHouse$Drawing;)I -/
theorem k139_0 : a_bl 139 0 = [o_al 0, o_getR 10 3, o_getR 3 0, o_I (J 0), o_aald, o_as 2, o_al 2, o_al 0, o_getR 10 0, o_call 111, o_al 0, o_getR 10 0, o_call 16, o_if 1 1, o_al 0, o_getR 10 0, o_call 24, o_ret 1] := rfl
theorem k139_1 : a_bl 139 1 = [o_al 1, o_getI 3 1, o_I (J 8), o_ic 2 2, o_I (J (-4)), o_ret 1] := rfl
theorem k139_2 : a_bl 139 2 = [o_al 1, o_al 2, o_I (J 0), o_al 2, o_getI 9 1, o_I (J 1), o_bin 1, o_call 39, o_pop, o_al 1, o_getI 3 1, o_I (J 1), o_bin 1, o_ret 1] := rfl
theorem k139_r : a_rt 139 = (some .int) := rfl
theorem k139_s {E : AEn} {hi : AHi} {hr : AHr} {n : Nat} {Q : ARs → Prop} (x0 : Nat) (x1 : Nat) : Sp E 139 [.ref x0, .ref x1] hi hr n Q ↔ Tm E 139 (a_bl 139 0) [.ref x0, .ref x1, a_mk] [] hi hr n Q := Iff.rfl
theorem K139 : (type_of% k139_0) ∧ (type_of% k139_1) ∧ (type_of% k139_2) ∧ (type_of% k139_r) ∧ (type_of% @k139_s) := ⟨k139_0, k139_1, k139_2, k139_r, @k139_s⟩
theorem c139 {m : Nat} {is : List AOp} {ls st : List Value} {E : AEn} {hi : AHi} {hr : AHr} {n : Nat} {Q : ARs → Prop} (x0 : Nat) (x1 : Nat) : Tm E m (o_call 139 :: is) ls (.ref x1 :: .ref x0 :: st) hi hr n Q ↔ (a_kd x0 = 10 ∧ x0 < n ∧ st.length ≤ 4) ∧ Sp E 139 [.ref x0, .ref x1] hi hr n (fun r => Tm E m is ls (r.1.toList ++ st) r.2.1 r.2.2.1 r.2.2.2 Q) := T_cI [.ref x1] rfl rfl rfl rfl
/-! CartoonHouse.take(II)I -/
theorem k140_0 : a_bl 140 0 = [o_al 0, o_il 1, o_il 2, o_call 141, o_if 1 1, o_I (J (-1)), o_ret 1] := rfl
theorem k140_1 : a_bl 140 1 = [o_al 0, o_getR 10 2, o_il 1, o_aald, o_il 2, o_call 40, o_al 0, o_getR 10 2, o_il 1, o_aald, o_getI 3 1, o_ret 1] := rfl
theorem k140_r : a_rt 140 = (some .int) := rfl
theorem k140_s {E : AEn} {hi : AHi} {hr : AHr} {n : Nat} {Q : ARs → Prop} (x0 : Nat) (x1 : Int32) (x2 : Int32) : Sp E 140 [.ref x0, .int x1, .int x2] hi hr n Q ↔ Tm E 140 (a_bl 140 0) [.ref x0, .int x1, .int x2] [] hi hr n Q := Iff.rfl
theorem K140 : (type_of% k140_0) ∧ (type_of% k140_1) ∧ (type_of% k140_r) ∧ (type_of% @k140_s) := ⟨k140_0, k140_1, k140_r, @k140_s⟩
theorem c140 {m : Nat} {is : List AOp} {ls st : List Value} {E : AEn} {hi : AHi} {hr : AHr} {n : Nat} {Q : ARs → Prop} (x0 : Nat) (x1 : Int32) (x2 : Int32) : Tm E m (o_call 140 :: is) ls (.int x2 :: .int x1 :: .ref x0 :: st) hi hr n Q ↔ (a_kd x0 = 10 ∧ x0 < n ∧ st.length ≤ 4) ∧ Sp E 140 [.ref x0, .int x1, .int x2] hi hr n (fun r => Tm E m is ls (r.1.toList ++ st) r.2.1 r.2.2.1 r.2.2.2 Q) := T_cI [.int x1, .int x2] rfl rfl rfl rfl
/-! CartoonHouse.isStroke(II)Z -/
theorem k141_0 : a_bl 141 0 = [o_il 1, o_call 137, o_if 0 1, o_il 2, o_I (J 0), o_al 0, o_getR 10 2, o_il 1, o_aald, o_getI 3 1, o_I (J 1), o_bin 1, o_call 138, o_if 0 1, o_I (J 1), o_goto 2] := rfl
theorem k141_1 : a_bl 141 1 = [o_I (J 0), o_ft 2] := rfl
theorem k141_2 : a_bl 141 2 = [o_ret 1] := rfl
theorem k141_r : a_rt 141 = (some .boolean) := rfl
theorem k141_s {E : AEn} {hi : AHi} {hr : AHr} {n : Nat} {Q : ARs → Prop} (x0 : Nat) (x1 : Int32) (x2 : Int32) : Sp E 141 [.ref x0, .int x1, .int x2] hi hr n Q ↔ Tm E 141 (a_bl 141 0) [.ref x0, .int x1, .int x2] [] hi hr n Q := Iff.rfl
theorem K141 : (type_of% k141_0) ∧ (type_of% k141_1) ∧ (type_of% k141_2) ∧ (type_of% k141_r) ∧ (type_of% @k141_s) := ⟨k141_0, k141_1, k141_2, k141_r, @k141_s⟩
theorem c141 {m : Nat} {is : List AOp} {ls st : List Value} {E : AEn} {hi : AHi} {hr : AHr} {n : Nat} {Q : ARs → Prop} (x0 : Nat) (x1 : Int32) (x2 : Int32) : Tm E m (o_call 141 :: is) ls (.int x2 :: .int x1 :: .ref x0 :: st) hi hr n Q ↔ (a_kd x0 = 10 ∧ x0 < n ∧ st.length ≤ 4) ∧ Sp E 141 [.ref x0, .int x1, .int x2] hi hr n (fun r => Tm E m is ls (r.1.toList ++ st) r.2.1 r.2.2.1 r.2.2.2 Q) := T_cI [.int x1, .int x2] rfl rfl rfl rfl
/-! CartoonHouse.written(I)I -/
theorem k142_0 : a_bl 142 0 = [o_il 1, o_call 137, o_if 1 1, o_I (J (-1)), o_ret 1] := rfl
theorem k142_1 : a_bl 142 1 = [o_al 0, o_getR 10 1, o_call 25, o_al 0, o_getR 10 2, o_il 1, o_aald, o_al 0, o_getR 10 1, o_call 41, o_al 0, o_getR 10 1, o_getI 1 1, o_ret 1] := rfl
theorem k142_r : a_rt 142 = (some .int) := rfl
theorem k142_s {E : AEn} {hi : AHi} {hr : AHr} {n : Nat} {Q : ARs → Prop} (x0 : Nat) (x1 : Int32) : Sp E 142 [.ref x0, .int x1] hi hr n Q ↔ Tm E 142 (a_bl 142 0) [.ref x0, .int x1] [] hi hr n Q := Iff.rfl
theorem K142 : (type_of% k142_0) ∧ (type_of% k142_1) ∧ (type_of% k142_r) ∧ (type_of% @k142_s) := ⟨k142_0, k142_1, k142_r, @k142_s⟩
theorem c142 {m : Nat} {is : List AOp} {ls st : List Value} {E : AEn} {hi : AHi} {hr : AHr} {n : Nat} {Q : ARs → Prop} (x0 : Nat) (x1 : Int32) : Tm E m (o_call 142 :: is) ls (.int x1 :: .ref x0 :: st) hi hr n Q ↔ (a_kd x0 = 10 ∧ x0 < n ∧ st.length ≤ 4) ∧ Sp E 142 [.ref x0, .int x1] hi hr n (fun r => Tm E m is ls (r.1.toList ++ st) r.2.1 r.2.2.1 r.2.2.2 Q) := T_cI [.int x1] rfl rfl rfl rfl
/-! CartoonHouse.fit(III)I -/
theorem k143_0 : a_bl 143 0 = [o_al 0, o_il 1, o_il 2, o_call 141, o_if 0 1, o_il 3, o_I (J 0), o_I (J 20), o_call 138, o_if 1 2, o_ft 1] := rfl
theorem k143_1 : a_bl 143 1 = [o_I (J (-1)), o_ret 1] := rfl
theorem k143_2 : a_bl 143 2 = [o_al 0, o_getR 10 2, o_il 1, o_aald, o_getR 3 0, o_il 2, o_aald, o_as 4, o_al 4, o_il 3, o_call 117, o_al 4, o_getI 9 1, o_ret 1] := rfl
theorem k143_r : a_rt 143 = (some .int) := rfl
theorem k143_s {E : AEn} {hi : AHi} {hr : AHr} {n : Nat} {Q : ARs → Prop} (x0 : Nat) (x1 : Int32) (x2 : Int32) (x3 : Int32) : Sp E 143 [.ref x0, .int x1, .int x2, .int x3] hi hr n Q ↔ Tm E 143 (a_bl 143 0) [.ref x0, .int x1, .int x2, .int x3, a_mk] [] hi hr n Q := Iff.rfl
theorem K143 : (type_of% k143_0) ∧ (type_of% k143_1) ∧ (type_of% k143_2) ∧ (type_of% k143_r) ∧ (type_of% @k143_s) := ⟨k143_0, k143_1, k143_2, k143_r, @k143_s⟩
theorem c143 {m : Nat} {is : List AOp} {ls st : List Value} {E : AEn} {hi : AHi} {hr : AHr} {n : Nat} {Q : ARs → Prop} (x0 : Nat) (x1 : Int32) (x2 : Int32) (x3 : Int32) : Tm E m (o_call 143 :: is) ls (.int x3 :: .int x2 :: .int x1 :: .ref x0 :: st) hi hr n Q ↔ (a_kd x0 = 10 ∧ x0 < n ∧ st.length ≤ 4) ∧ Sp E 143 [.ref x0, .int x1, .int x2, .int x3] hi hr n (fun r => Tm E m is ls (r.1.toList ++ st) r.2.1 r.2.2.1 r.2.2.2 Q) := T_cI [.int x1, .int x2, .int x3] rfl rfl rfl rfl
/-! CartoonHouse.erase(IIII)I -/
theorem k144_0 : a_bl 144 0 = [o_il 1, o_call 137, o_if 0 1, o_il 2, o_il 3, o_call 145, o_if 0 1, o_il 4, o_I (J 0), o_I (J 10), o_call 138, o_if 1 2, o_ft 1] := rfl
theorem k144_1 : a_bl 144 1 = [o_I (J (-1)), o_ret 1] := rfl
theorem k144_2 : a_bl 144 2 = [o_al 0, o_getR 10 3, o_al 0, o_getR 10 2, o_il 1, o_aald, o_il 2, o_il 3, o_il 4, o_call 42, o_is 5, o_il 5, o_if 2 3, o_al 0, o_getR 10 2, o_il 1, o_aald, o_al 0, o_getR 10 3, o_call 43, o_ft 3] := rfl
theorem k144_3 : a_bl 144 3 = [o_il 5, o_ret 1] := rfl
theorem k144_r : a_rt 144 = (some .int) := rfl
theorem k144_s {E : AEn} {hi : AHi} {hr : AHr} {n : Nat} {Q : ARs → Prop} (x0 : Nat) (x1 : Int32) (x2 : Int32) (x3 : Int32) (x4 : Int32) : Sp E 144 [.ref x0, .int x1, .int x2, .int x3, .int x4] hi hr n Q ↔ Tm E 144 (a_bl 144 0) [.ref x0, .int x1, .int x2, .int x3, .int x4, a_mk] [] hi hr n Q := Iff.rfl
theorem K144 : (type_of% k144_0) ∧ (type_of% k144_1) ∧ (type_of% k144_2) ∧ (type_of% k144_3) ∧ (type_of% k144_r) ∧ (type_of% @k144_s) := ⟨k144_0, k144_1, k144_2, k144_3, k144_r, @k144_s⟩
theorem c144 {m : Nat} {is : List AOp} {ls st : List Value} {E : AEn} {hi : AHi} {hr : AHr} {n : Nat} {Q : ARs → Prop} (x0 : Nat) (x1 : Int32) (x2 : Int32) (x3 : Int32) (x4 : Int32) : Tm E m (o_call 144 :: is) ls (.int x4 :: .int x3 :: .int x2 :: .int x1 :: .ref x0 :: st) hi hr n Q ↔ (a_kd x0 = 10 ∧ x0 < n ∧ st.length ≤ 4) ∧ Sp E 144 [.ref x0, .int x1, .int x2, .int x3, .int x4] hi hr n (fun r => Tm E m is ls (r.1.toList ++ st) r.2.1 r.2.2.1 r.2.2.2 Q) := T_cI [.int x1, .int x2, .int x3, .int x4] rfl rfl rfl rfl
/-! CartoonHouse.isOnPaper(II)Z -/
theorem k145_0 : a_bl 145 0 = [o_I (J 0), o_il 0, o_ic 4 1, o_il 0, o_I (J 48), o_ic 3 1, o_I (J 0), o_il 1, o_ic 4 1, o_il 1, o_I (J 32), o_ic 3 1, o_I (J 1), o_goto 2] := rfl
theorem k145_1 : a_bl 145 1 = [o_I (J 0), o_ft 2] := rfl
theorem k145_2 : a_bl 145 2 = [o_ret 1] := rfl
theorem k145_r : a_rt 145 = (some .boolean) := rfl
theorem k145_s {E : AEn} {hi : AHi} {hr : AHr} {n : Nat} {Q : ARs → Prop} (x0 : Int32) (x1 : Int32) : Sp E 145 [.int x0, .int x1] hi hr n Q ↔ Tm E 145 (a_bl 145 0) [.int x0, .int x1] [] hi hr n Q := Iff.rfl
theorem K145 : (type_of% k145_0) ∧ (type_of% k145_1) ∧ (type_of% k145_2) ∧ (type_of% k145_r) ∧ (type_of% @k145_s) := ⟨k145_0, k145_1, k145_2, k145_r, @k145_s⟩
theorem c145 {m : Nat} {is : List AOp} {ls st : List Value} {E : AEn} {hi : AHi} {hr : AHr} {n : Nat} {Q : ARs → Prop} (x0 : Int32) (x1 : Int32) : Tm E m (o_call 145 :: is) ls (.int x1 :: .int x0 :: st) hi hr n Q ↔ st.length ≤ 4 ∧ Sp E 145 [.int x0, .int x1] hi hr n (fun r => Tm E m is ls (r.1.toList ++ st) r.2.1 r.2.2.1 r.2.2.2 Q) := T_cS [.int x0, .int x1] rfl rfl
/-! CartoonHouse.round(JJ)I -/
theorem k146_0 : a_bl 146 0 = [o_ll 2, o_L (L 0), o_binL 5, o_if 5 1, o_L (L 2), o_ll 0, o_binL 2, o_ll 2, o_binL 0, o_L (L 2), o_ll 2, o_binL 2, o_call 348, o_un 2, o_goto 2] := rfl
theorem k146_1 : a_bl 146 1 = [o_I (J 0), o_ft 2] := rfl
theorem k146_2 : a_bl 146 2 = [o_ret 1] := rfl
theorem k146_r : a_rt 146 = (some .int) := rfl
theorem k146_s {E : AEn} {hi : AHi} {hr : AHr} {n : Nat} {Q : ARs → Prop} (x0 : Int64) (x1 : Int64) : Sp E 146 [.long x0, .long x1] hi hr n Q ↔ Tm E 146 (a_bl 146 0) [.long x0, a_mk, .long x1, a_mk] [] hi hr n Q := Iff.rfl
theorem K146 : (type_of% k146_0) ∧ (type_of% k146_1) ∧ (type_of% k146_2) ∧ (type_of% k146_r) ∧ (type_of% @k146_s) := ⟨k146_0, k146_1, k146_2, k146_r, @k146_s⟩
theorem c146 {m : Nat} {is : List AOp} {ls st : List Value} {E : AEn} {hi : AHi} {hr : AHr} {n : Nat} {Q : ARs → Prop} (x0 : Int64) (x1 : Int64) : Tm E m (o_call 146 :: is) ls (.long x1 :: .long x0 :: st) hi hr n Q ↔ st.length ≤ 4 ∧ Sp E 146 [.long x0, .long x1] hi hr n (fun r => Tm E m is ls (r.1.toList ++ st) r.2.1 r.2.2.1 r.2.2.2 Q) := T_cS [.long x0, .long x1] rfl rfl
/-! CartoonHouse.meets(III)I -/
theorem k147_0 : a_bl 147 0 = [o_al 0, o_il 1, o_il 2, o_call 141, o_if 0 1, o_al 0, o_il 1, o_il 3, o_call 141, o_if 0 1, o_il 2, o_il 3, o_ic 1 2, o_ft 1] := rfl
theorem k147_1 : a_bl 147 1 = [o_I (J (-1)), o_ret 1] := rfl
theorem k147_2 : a_bl 147 2 = [o_al 0, o_getR 10 2, o_il 1, o_aald, o_getR 3 0, o_il 2, o_aald, o_al 0, o_getR 10 2, o_il 1, o_aald, o_getR 3 0, o_il 3, o_aald, o_call 122, o_ret 1] := rfl
theorem k147_r : a_rt 147 = (some .int) := rfl
theorem k147_s {E : AEn} {hi : AHi} {hr : AHr} {n : Nat} {Q : ARs → Prop} (x0 : Nat) (x1 : Int32) (x2 : Int32) (x3 : Int32) : Sp E 147 [.ref x0, .int x1, .int x2, .int x3] hi hr n Q ↔ Tm E 147 (a_bl 147 0) [.ref x0, .int x1, .int x2, .int x3] [] hi hr n Q := Iff.rfl
theorem K147 : (type_of% k147_0) ∧ (type_of% k147_1) ∧ (type_of% k147_2) ∧ (type_of% k147_r) ∧ (type_of% @k147_s) := ⟨k147_0, k147_1, k147_2, k147_r, @k147_s⟩
theorem c147 {m : Nat} {is : List AOp} {ls st : List Value} {E : AEn} {hi : AHi} {hr : AHr} {n : Nat} {Q : ARs → Prop} (x0 : Nat) (x1 : Int32) (x2 : Int32) (x3 : Int32) : Tm E m (o_call 147 :: is) ls (.int x3 :: .int x2 :: .int x1 :: .ref x0 :: st) hi hr n Q ↔ (a_kd x0 = 10 ∧ x0 < n ∧ st.length ≤ 4) ∧ Sp E 147 [.ref x0, .int x1, .int x2, .int x3] hi hr n (fun r => Tm E m is ls (r.1.toList ++ st) r.2.1 r.2.2.1 r.2.2.2 Q) := T_cI [.int x1, .int x2, .int x3] rfl rfl rfl rfl
/-! CartoonHouse.area(II)I -/
theorem k148_0 : a_bl 148 0 = [o_al 0, o_il 1, o_il 2, o_call 141, o_if 1 1, o_I (J (-1000000)), o_ret 1] := rfl
theorem k148_1 : a_bl 148 1 = [o_al 0, o_getR 10 2, o_il 1, o_aald, o_getR 3 0, o_il 2, o_aald, o_call 126, o_ret 1] := rfl
theorem k148_r : a_rt 148 = (some .int) := rfl
theorem k148_s {E : AEn} {hi : AHi} {hr : AHr} {n : Nat} {Q : ARs → Prop} (x0 : Nat) (x1 : Int32) (x2 : Int32) : Sp E 148 [.ref x0, .int x1, .int x2] hi hr n Q ↔ Tm E 148 (a_bl 148 0) [.ref x0, .int x1, .int x2] [] hi hr n Q := Iff.rfl
theorem K148 : (type_of% k148_0) ∧ (type_of% k148_1) ∧ (type_of% k148_r) ∧ (type_of% @k148_s) := ⟨k148_0, k148_1, k148_r, @k148_s⟩
theorem c148 {m : Nat} {is : List AOp} {ls st : List Value} {E : AEn} {hi : AHi} {hr : AHr} {n : Nat} {Q : ARs → Prop} (x0 : Nat) (x1 : Int32) (x2 : Int32) : Tm E m (o_call 148 :: is) ls (.int x2 :: .int x1 :: .ref x0 :: st) hi hr n Q ↔ (a_kd x0 = 10 ∧ x0 < n ∧ st.length ≤ 4) ∧ Sp E 148 [.ref x0, .int x1, .int x2] hi hr n (fun r => Tm E m is ls (r.1.toList ++ st) r.2.1 r.2.2.1 r.2.2.2 Q) := T_cI [.int x1, .int x2] rfl rfl rfl rfl
/-! CartoonHouse.fill(IIIII)I -/
theorem k149_0 : a_bl 149 0 = [o_il 1, o_call 137, o_if 0 1, o_il 2, o_il 3, o_call 145, o_if 0 1, o_il 4, o_I (J 0), o_I (J 8), o_call 138, o_if 0 1, o_il 5, o_call 150, o_if 1 2, o_ft 1] := rfl
theorem k149_1 : a_bl 149 1 = [o_I (J (-1)), o_ret 1] := rfl
theorem k149_2 : a_bl 149 2 = [o_al 0, o_getR 10 2, o_il 1, o_aald, o_as 6, o_al 6, o_getI 3 5, o_I (J 6), o_ic 2 3, o_I (J (-4)), o_ret 1] := rfl
theorem k149_3 : a_bl 149 3 = [o_al 0, o_getR 10 4, o_al 6, o_il 2, o_il 3, o_call 151, o_il 4, o_call 30, o_is 7, o_il 7, o_if 5 4, o_al 6, o_il 2, o_il 3, o_call 151, o_il 4, o_il 5, o_call 44, o_ft 4] := rfl
theorem k149_4 : a_bl 149 4 = [o_il 7, o_ret 1] := rfl
theorem k149_r : a_rt 149 = (some .int) := rfl
theorem k149_s {E : AEn} {hi : AHi} {hr : AHr} {n : Nat} {Q : ARs → Prop} (x0 : Nat) (x1 : Int32) (x2 : Int32) (x3 : Int32) (x4 : Int32) (x5 : Int32) : Sp E 149 [.ref x0, .int x1, .int x2, .int x3, .int x4, .int x5] hi hr n Q ↔ Tm E 149 (a_bl 149 0) [.ref x0, .int x1, .int x2, .int x3, .int x4, .int x5, a_mk, a_mk] [] hi hr n Q := Iff.rfl
theorem K149 : (type_of% k149_0) ∧ (type_of% k149_1) ∧ (type_of% k149_2) ∧ (type_of% k149_3) ∧ (type_of% k149_4) ∧ (type_of% k149_r) ∧ (type_of% @k149_s) := ⟨k149_0, k149_1, k149_2, k149_3, k149_4, k149_r, @k149_s⟩
theorem c149 {m : Nat} {is : List AOp} {ls st : List Value} {E : AEn} {hi : AHi} {hr : AHr} {n : Nat} {Q : ARs → Prop} (x0 : Nat) (x1 : Int32) (x2 : Int32) (x3 : Int32) (x4 : Int32) (x5 : Int32) : Tm E m (o_call 149 :: is) ls (.int x5 :: .int x4 :: .int x3 :: .int x2 :: .int x1 :: .ref x0 :: st) hi hr n Q ↔ (a_kd x0 = 10 ∧ x0 < n ∧ st.length ≤ 4) ∧ Sp E 149 [.ref x0, .int x1, .int x2, .int x3, .int x4, .int x5] hi hr n (fun r => Tm E m is ls (r.1.toList ++ st) r.2.1 r.2.2.1 r.2.2.2 Q) := T_cI [.int x1, .int x2, .int x3, .int x4, .int x5] rfl rfl rfl rfl
/-! CartoonHouse.isColour(I)Z -/
theorem k150_0 : a_bl 150 0 = [o_il 0, o_I (J 1), o_I (J 15), o_call 138, o_ret 1] := rfl
theorem k150_r : a_rt 150 = (some .boolean) := rfl
theorem k150_s {E : AEn} {hi : AHi} {hr : AHr} {n : Nat} {Q : ARs → Prop} (x0 : Int32) : Sp E 150 [.int x0] hi hr n Q ↔ Tm E 150 (a_bl 150 0) [.int x0] [] hi hr n Q := Iff.rfl
theorem K150 : (type_of% k150_0) ∧ (type_of% k150_r) ∧ (type_of% @k150_s) := ⟨k150_0, k150_r, @k150_s⟩
theorem c150 {m : Nat} {is : List AOp} {ls st : List Value} {E : AEn} {hi : AHi} {hr : AHr} {n : Nat} {Q : ARs → Prop} (x0 : Int32) : Tm E m (o_call 150 :: is) ls (.int x0 :: st) hi hr n Q ↔ st.length ≤ 4 ∧ Sp E 150 [.int x0] hi hr n (fun r => Tm E m is ls (r.1.toList ++ st) r.2.1 r.2.2.1 r.2.2.2 Q) := T_cS [.int x0] rfl rfl
/-! CartoonHouse.pixel(II)I -/
theorem k151_0 : a_bl 151 0 = [o_il 1, o_I (J 48), o_bin 2, o_il 0, o_bin 0, o_ret 1] := rfl
theorem k151_r : a_rt 151 = (some .int) := rfl
theorem k151_s {E : AEn} {hi : AHi} {hr : AHr} {n : Nat} {Q : ARs → Prop} (x0 : Int32) (x1 : Int32) : Sp E 151 [.int x0, .int x1] hi hr n Q ↔ Tm E 151 (a_bl 151 0) [.int x0, .int x1] [] hi hr n Q := Iff.rfl
theorem K151 : (type_of% k151_0) ∧ (type_of% k151_r) ∧ (type_of% @k151_s) := ⟨k151_0, k151_r, @k151_s⟩
theorem c151 {m : Nat} {is : List AOp} {ls st : List Value} {E : AEn} {hi : AHi} {hr : AHr} {n : Nat} {Q : ARs → Prop} (x0 : Int32) (x1 : Int32) : Tm E m (o_call 151 :: is) ls (.int x1 :: .int x0 :: st) hi hr n Q ↔ st.length ≤ 4 ∧ Sp E 151 [.int x0, .int x1] hi hr n (fun r => Tm E m is ls (r.1.toList ++ st) r.2.1 r.2.2.1 r.2.2.2 Q) := T_cS [.int x0, .int x1] rfl rfl
/-! CartoonHouse.unfill(II)I -/
theorem k152_0 : a_bl 152 0 = [o_al 0, o_il 1, o_il 2, o_call 153, o_if 1 1, o_I (J (-1)), o_ret 1] := rfl
theorem k152_1 : a_bl 152 1 = [o_al 0, o_getR 10 2, o_il 1, o_aald, o_il 2, o_call 45, o_al 0, o_getR 10 2, o_il 1, o_aald, o_getI 3 5, o_ret 1] := rfl
theorem k152_r : a_rt 152 = (some .int) := rfl
theorem k152_s {E : AEn} {hi : AHi} {hr : AHr} {n : Nat} {Q : ARs → Prop} (x0 : Nat) (x1 : Int32) (x2 : Int32) : Sp E 152 [.ref x0, .int x1, .int x2] hi hr n Q ↔ Tm E 152 (a_bl 152 0) [.ref x0, .int x1, .int x2] [] hi hr n Q := Iff.rfl
theorem K152 : (type_of% k152_0) ∧ (type_of% k152_1) ∧ (type_of% k152_r) ∧ (type_of% @k152_s) := ⟨k152_0, k152_1, k152_r, @k152_s⟩
theorem c152 {m : Nat} {is : List AOp} {ls st : List Value} {E : AEn} {hi : AHi} {hr : AHr} {n : Nat} {Q : ARs → Prop} (x0 : Nat) (x1 : Int32) (x2 : Int32) : Tm E m (o_call 152 :: is) ls (.int x2 :: .int x1 :: .ref x0 :: st) hi hr n Q ↔ (a_kd x0 = 10 ∧ x0 < n ∧ st.length ≤ 4) ∧ Sp E 152 [.ref x0, .int x1, .int x2] hi hr n (fun r => Tm E m is ls (r.1.toList ++ st) r.2.1 r.2.2.1 r.2.2.2 Q) := T_cI [.int x1, .int x2] rfl rfl rfl rfl
/-! CartoonHouse.isFill(II)Z -/
theorem k153_0 : a_bl 153 0 = [o_il 1, o_call 137, o_if 0 1, o_il 2, o_I (J 0), o_al 0, o_getR 10 2, o_il 1, o_aald, o_getI 3 5, o_I (J 1), o_bin 1, o_call 138, o_if 0 1, o_I (J 1), o_goto 2] := rfl
theorem k153_1 : a_bl 153 1 = [o_I (J 0), o_ft 2] := rfl
theorem k153_2 : a_bl 153 2 = [o_ret 1] := rfl
theorem k153_r : a_rt 153 = (some .boolean) := rfl
theorem k153_s {E : AEn} {hi : AHi} {hr : AHr} {n : Nat} {Q : ARs → Prop} (x0 : Nat) (x1 : Int32) (x2 : Int32) : Sp E 153 [.ref x0, .int x1, .int x2] hi hr n Q ↔ Tm E 153 (a_bl 153 0) [.ref x0, .int x1, .int x2] [] hi hr n Q := Iff.rfl
theorem K153 : (type_of% k153_0) ∧ (type_of% k153_1) ∧ (type_of% k153_2) ∧ (type_of% k153_r) ∧ (type_of% @k153_s) := ⟨k153_0, k153_1, k153_2, k153_r, @k153_s⟩
theorem c153 {m : Nat} {is : List AOp} {ls st : List Value} {E : AEn} {hi : AHi} {hr : AHr} {n : Nat} {Q : ARs → Prop} (x0 : Nat) (x1 : Int32) (x2 : Int32) : Tm E m (o_call 153 :: is) ls (.int x2 :: .int x1 :: .ref x0 :: st) hi hr n Q ↔ (a_kd x0 = 10 ∧ x0 < n ∧ st.length ≤ 4) ∧ Sp E 153 [.ref x0, .int x1, .int x2] hi hr n (fun r => Tm E m is ls (r.1.toList ++ st) r.2.1 r.2.2.1 r.2.2.2 Q) := T_cI [.int x1, .int x2] rfl rfl rfl rfl
/-! CartoonHouse.region(II)I -/
theorem k154_0 : a_bl 154 0 = [o_al 0, o_il 1, o_il 2, o_call 153, o_if 1 1, o_I (J (-1)), o_ret 1] := rfl
theorem k154_1 : a_bl 154 1 = [o_al 0, o_getR 10 2, o_il 1, o_aald, o_as 3, o_al 0, o_getR 10 4, o_al 3, o_al 3, o_getR 3 2, o_il 2, o_iald, o_al 3, o_getR 3 3, o_il 2, o_iald, o_call 30, o_ret 1] := rfl
theorem k154_r : a_rt 154 = (some .int) := rfl
theorem k154_s {E : AEn} {hi : AHi} {hr : AHr} {n : Nat} {Q : ARs → Prop} (x0 : Nat) (x1 : Int32) (x2 : Int32) : Sp E 154 [.ref x0, .int x1, .int x2] hi hr n Q ↔ Tm E 154 (a_bl 154 0) [.ref x0, .int x1, .int x2, a_mk] [] hi hr n Q := Iff.rfl
theorem K154 : (type_of% k154_0) ∧ (type_of% k154_1) ∧ (type_of% k154_r) ∧ (type_of% @k154_s) := ⟨k154_0, k154_1, k154_r, @k154_s⟩
theorem c154 {m : Nat} {is : List AOp} {ls st : List Value} {E : AEn} {hi : AHi} {hr : AHr} {n : Nat} {Q : ARs → Prop} (x0 : Nat) (x1 : Int32) (x2 : Int32) : Tm E m (o_call 154 :: is) ls (.int x2 :: .int x1 :: .ref x0 :: st) hi hr n Q ↔ (a_kd x0 = 10 ∧ x0 < n ∧ st.length ≤ 4) ∧ Sp E 154 [.ref x0, .int x1, .int x2] hi hr n (fun r => Tm E m is ls (r.1.toList ++ st) r.2.1 r.2.2.1 r.2.2.2 Q) := T_cI [.int x1, .int x2] rfl rfl rfl rfl
/-! CartoonHouse.paint(III)I -/
theorem k155_0 : a_bl 155 0 = [o_il 1, o_call 137, o_if 0 1, o_il 2, o_il 3, o_call 145, o_if 1 2, o_ft 1] := rfl
theorem k155_1 : a_bl 155 1 = [o_I (J (-1)), o_ret 1] := rfl
theorem k155_2 : a_bl 155 2 = [o_al 0, o_getR 10 4, o_al 0, o_getR 10 2, o_il 1, o_aald, o_call 37, o_al 0, o_getR 10 4, o_getR 2 1, o_il 2, o_il 3, o_call 151, o_iald, o_ret 1] := rfl
theorem k155_r : a_rt 155 = (some .int) := rfl
theorem k155_s {E : AEn} {hi : AHi} {hr : AHr} {n : Nat} {Q : ARs → Prop} (x0 : Nat) (x1 : Int32) (x2 : Int32) (x3 : Int32) : Sp E 155 [.ref x0, .int x1, .int x2, .int x3] hi hr n Q ↔ Tm E 155 (a_bl 155 0) [.ref x0, .int x1, .int x2, .int x3] [] hi hr n Q := Iff.rfl
theorem K155 : (type_of% k155_0) ∧ (type_of% k155_1) ∧ (type_of% k155_2) ∧ (type_of% k155_r) ∧ (type_of% @k155_s) := ⟨k155_0, k155_1, k155_2, k155_r, @k155_s⟩
theorem c155 {m : Nat} {is : List AOp} {ls st : List Value} {E : AEn} {hi : AHi} {hr : AHr} {n : Nat} {Q : ARs → Prop} (x0 : Nat) (x1 : Int32) (x2 : Int32) (x3 : Int32) : Tm E m (o_call 155 :: is) ls (.int x3 :: .int x2 :: .int x1 :: .ref x0 :: st) hi hr n Q ↔ (a_kd x0 = 10 ∧ x0 < n ∧ st.length ≤ 4) ∧ Sp E 155 [.ref x0, .int x1, .int x2, .int x3] hi hr n (fun r => Tm E m is ls (r.1.toList ++ st) r.2.1 r.2.2.1 r.2.2.2 Q) := T_cI [.int x1, .int x2, .int x3] rfl rfl rfl rfl
/-! CartoonHouse.colour(III)I -/
theorem k156_0 : a_bl 156 0 = [o_il 1, o_I (J 0), o_I (J 3), o_call 138, o_if 0 1, o_il 2, o_call 150, o_if 0 1, o_il 3, o_I (J 0), o_I (J 16777215), o_call 138, o_if 1 2, o_ft 1] := rfl
theorem k156_1 : a_bl 156 1 = [o_I (J (-1)), o_ret 1] := rfl
theorem k156_2 : a_bl 156 2 = [o_al 0, o_getR 10 5, o_il 1, o_aald, o_il 2, o_iald, o_is 4, o_al 0, o_getR 10 5, o_il 1, o_aald, o_il 2, o_il 3, o_iast, o_il 4, o_ret 1] := rfl
theorem k156_r : a_rt 156 = (some .int) := rfl
theorem k156_s {E : AEn} {hi : AHi} {hr : AHr} {n : Nat} {Q : ARs → Prop} (x0 : Nat) (x1 : Int32) (x2 : Int32) (x3 : Int32) : Sp E 156 [.ref x0, .int x1, .int x2, .int x3] hi hr n Q ↔ Tm E 156 (a_bl 156 0) [.ref x0, .int x1, .int x2, .int x3, a_mk] [] hi hr n Q := Iff.rfl
theorem K156 : (type_of% k156_0) ∧ (type_of% k156_1) ∧ (type_of% k156_2) ∧ (type_of% k156_r) ∧ (type_of% @k156_s) := ⟨k156_0, k156_1, k156_2, k156_r, @k156_s⟩
theorem c156 {m : Nat} {is : List AOp} {ls st : List Value} {E : AEn} {hi : AHi} {hr : AHr} {n : Nat} {Q : ARs → Prop} (x0 : Nat) (x1 : Int32) (x2 : Int32) (x3 : Int32) : Tm E m (o_call 156 :: is) ls (.int x3 :: .int x2 :: .int x1 :: .ref x0 :: st) hi hr n Q ↔ (a_kd x0 = 10 ∧ x0 < n ∧ st.length ≤ 4) ∧ Sp E 156 [.ref x0, .int x1, .int x2, .int x3] hi hr n (fun r => Tm E m is ls (r.1.toList ++ st) r.2.1 r.2.2.1 r.2.2.2 Q) := T_cI [.int x1, .int x2, .int x3] rfl rfl rfl rfl
/-! CartoonHouse.sheet(I)I -/
theorem k157_0 : a_bl 157 0 = [o_il 1, o_call 158, o_if 0 1, o_al 0, o_getR 10 6, o_il 1, o_aald, o_al 0, o_getR 10 0, o_call 58, o_goto 2] := rfl
theorem k157_1 : a_bl 157 1 = [o_I (J (-1)), o_ft 2] := rfl
theorem k157_2 : a_bl 157 2 = [o_is 2, o_al 0, o_getR 10 0, o_call 25, o_il 2, o_ret 1] := rfl
theorem k157_r : a_rt 157 = (some .int) := rfl
theorem k157_s {E : AEn} {hi : AHi} {hr : AHr} {n : Nat} {Q : ARs → Prop} (x0 : Nat) (x1 : Int32) : Sp E 157 [.ref x0, .int x1] hi hr n Q ↔ Tm E 157 (a_bl 157 0) [.ref x0, .int x1, a_mk] [] hi hr n Q := Iff.rfl
theorem K157 : (type_of% k157_0) ∧ (type_of% k157_1) ∧ (type_of% k157_2) ∧ (type_of% k157_r) ∧ (type_of% @k157_s) := ⟨k157_0, k157_1, k157_2, k157_r, @k157_s⟩
theorem c157 {m : Nat} {is : List AOp} {ls st : List Value} {E : AEn} {hi : AHi} {hr : AHr} {n : Nat} {Q : ARs → Prop} (x0 : Nat) (x1 : Int32) : Tm E m (o_call 157 :: is) ls (.int x1 :: .ref x0 :: st) hi hr n Q ↔ (a_kd x0 = 10 ∧ x0 < n ∧ st.length ≤ 4) ∧ Sp E 157 [.ref x0, .int x1] hi hr n (fun r => Tm E m is ls (r.1.toList ++ st) r.2.1 r.2.2.1 r.2.2.2 Q) := T_cI [.int x1] rfl rfl rfl rfl
/-! CartoonHouse.isLayer(I)Z -/
theorem k158_0 : a_bl 158 0 = [o_il 0, o_I (J 0), o_I (J 3), o_call 138, o_ret 1] := rfl
theorem k158_r : a_rt 158 = (some .boolean) := rfl
theorem k158_s {E : AEn} {hi : AHi} {hr : AHr} {n : Nat} {Q : ARs → Prop} (x0 : Int32) : Sp E 158 [.int x0] hi hr n Q ↔ Tm E 158 (a_bl 158 0) [.int x0] [] hi hr n Q := Iff.rfl
theorem K158 : (type_of% k158_0) ∧ (type_of% k158_r) ∧ (type_of% @k158_s) := ⟨k158_0, k158_r, @k158_s⟩
theorem c158 {m : Nat} {is : List AOp} {ls st : List Value} {E : AEn} {hi : AHi} {hr : AHr} {n : Nat} {Q : ARs → Prop} (x0 : Int32) : Tm E m (o_call 158 :: is) ls (.int x0 :: st) hi hr n Q ↔ st.length ≤ 4 ∧ Sp E 158 [.int x0] hi hr n (fun r => Tm E m is ls (r.1.toList ++ st) r.2.1 r.2.2.1 r.2.2.2 Q) := T_cS [.int x0] rfl rfl
/-! CartoonHouse.shown(II)I -/
theorem k159_0 : a_bl 159 0 = [o_il 1, o_call 158, o_if 0 1, o_al 0, o_getR 10 6, o_il 1, o_aald, o_il 2, o_call 62, o_goto 2] := rfl
theorem k159_1 : a_bl 159 1 = [o_I (J (-1)), o_ft 2] := rfl
theorem k159_2 : a_bl 159 2 = [o_ret 1] := rfl
theorem k159_r : a_rt 159 = (some .int) := rfl
theorem k159_s {E : AEn} {hi : AHi} {hr : AHr} {n : Nat} {Q : ARs → Prop} (x0 : Nat) (x1 : Int32) (x2 : Int32) : Sp E 159 [.ref x0, .int x1, .int x2] hi hr n Q ↔ Tm E 159 (a_bl 159 0) [.ref x0, .int x1, .int x2] [] hi hr n Q := Iff.rfl
theorem K159 : (type_of% k159_0) ∧ (type_of% k159_1) ∧ (type_of% k159_2) ∧ (type_of% k159_r) ∧ (type_of% @k159_s) := ⟨k159_0, k159_1, k159_2, k159_r, @k159_s⟩
theorem c159 {m : Nat} {is : List AOp} {ls st : List Value} {E : AEn} {hi : AHi} {hr : AHr} {n : Nat} {Q : ARs → Prop} (x0 : Nat) (x1 : Int32) (x2 : Int32) : Tm E m (o_call 159 :: is) ls (.int x2 :: .int x1 :: .ref x0 :: st) hi hr n Q ↔ (a_kd x0 = 10 ∧ x0 < n ∧ st.length ≤ 4) ∧ Sp E 159 [.ref x0, .int x1, .int x2] hi hr n (fun r => Tm E m is ls (r.1.toList ++ st) r.2.1 r.2.2.1 r.2.2.2 Q) := T_cI [.int x1, .int x2] rfl rfl rfl rfl
/-! CartoonHouse.stretch(III)I -/
theorem k160_0 : a_bl 160 0 = [o_il 1, o_call 158, o_if 0 1, o_il 2, o_I (J 1), o_I (J 20), o_call 138, o_if 0 1, o_il 3, o_I (J 1), o_I (J 20), o_call 138, o_if 1 2, o_ft 1] := rfl
theorem k160_1 : a_bl 160 1 = [o_I (J (-1)), o_ret 1] := rfl
theorem k160_2 : a_bl 160 2 = [o_al 0, o_getR 10 6, o_il 1, o_aald, o_il 2, o_il 3, o_call 63, o_ret 1] := rfl
theorem k160_r : a_rt 160 = (some .int) := rfl
theorem k160_s {E : AEn} {hi : AHi} {hr : AHr} {n : Nat} {Q : ARs → Prop} (x0 : Nat) (x1 : Int32) (x2 : Int32) (x3 : Int32) : Sp E 160 [.ref x0, .int x1, .int x2, .int x3] hi hr n Q ↔ Tm E 160 (a_bl 160 0) [.ref x0, .int x1, .int x2, .int x3] [] hi hr n Q := Iff.rfl
theorem K160 : (type_of% k160_0) ∧ (type_of% k160_1) ∧ (type_of% k160_2) ∧ (type_of% k160_r) ∧ (type_of% @k160_s) := ⟨k160_0, k160_1, k160_2, k160_r, @k160_s⟩
theorem c160 {m : Nat} {is : List AOp} {ls st : List Value} {E : AEn} {hi : AHi} {hr : AHr} {n : Nat} {Q : ARs → Prop} (x0 : Nat) (x1 : Int32) (x2 : Int32) (x3 : Int32) : Tm E m (o_call 160 :: is) ls (.int x3 :: .int x2 :: .int x1 :: .ref x0 :: st) hi hr n Q ↔ (a_kd x0 = 10 ∧ x0 < n ∧ st.length ≤ 4) ∧ Sp E 160 [.ref x0, .int x1, .int x2, .int x3] hi hr n (fun r => Tm E m is ls (r.1.toList ++ st) r.2.1 r.2.2.1 r.2.2.2 Q) := T_cI [.int x1, .int x2, .int x3] rfl rfl rfl rfl
/-! CartoonHouse.told(I)I -/
theorem k161_0 : a_bl 161 0 = [o_il 1, o_call 158, o_if 1 1, o_I (J (-1)), o_ret 1] := rfl
theorem k161_1 : a_bl 161 1 = [o_al 0, o_getR 10 1, o_call 25, o_al 0, o_getR 10 6, o_il 1, o_aald, o_al 0, o_getR 10 1, o_call 64, o_al 0, o_getR 10 1, o_getI 1 1, o_ret 1] := rfl
theorem k161_r : a_rt 161 = (some .int) := rfl
theorem k161_s {E : AEn} {hi : AHi} {hr : AHr} {n : Nat} {Q : ARs → Prop} (x0 : Nat) (x1 : Int32) : Sp E 161 [.ref x0, .int x1] hi hr n Q ↔ Tm E 161 (a_bl 161 0) [.ref x0, .int x1] [] hi hr n Q := Iff.rfl
theorem K161 : (type_of% k161_0) ∧ (type_of% k161_1) ∧ (type_of% k161_r) ∧ (type_of% @k161_s) := ⟨k161_0, k161_1, k161_r, @k161_s⟩
theorem c161 {m : Nat} {is : List AOp} {ls st : List Value} {E : AEn} {hi : AHi} {hr : AHr} {n : Nat} {Q : ARs → Prop} (x0 : Nat) (x1 : Int32) : Tm E m (o_call 161 :: is) ls (.int x1 :: .ref x0 :: st) hi hr n Q ↔ (a_kd x0 = 10 ∧ x0 < n ∧ st.length ≤ 4) ∧ Sp E 161 [.ref x0, .int x1] hi hr n (fun r => Tm E m is ls (r.1.toList ++ st) r.2.1 r.2.2.1 r.2.2.2 Q) := T_cI [.int x1] rfl rfl rfl rfl
/-! CartoonHouse.mark(II)I -/
theorem k162_0 : a_bl 162 0 = [o_il 1, o_I (J 0), o_I (J 7), o_call 138, o_if 0 1, o_il 2, o_I (J 0), o_I (J 7), o_call 138, o_if 1 2, o_ft 1] := rfl
theorem k162_1 : a_bl 162 1 = [o_I (J (-1)), o_ret 1] := rfl
theorem k162_2 : a_bl 162 2 = [o_al 0, o_getR 10 7, o_il 1, o_il 2, o_call 80, o_ret 1] := rfl
theorem k162_r : a_rt 162 = (some .int) := rfl
theorem k162_s {E : AEn} {hi : AHi} {hr : AHr} {n : Nat} {Q : ARs → Prop} (x0 : Nat) (x1 : Int32) (x2 : Int32) : Sp E 162 [.ref x0, .int x1, .int x2] hi hr n Q ↔ Tm E 162 (a_bl 162 0) [.ref x0, .int x1, .int x2] [] hi hr n Q := Iff.rfl
theorem K162 : (type_of% k162_0) ∧ (type_of% k162_1) ∧ (type_of% k162_2) ∧ (type_of% k162_r) ∧ (type_of% @k162_s) := ⟨k162_0, k162_1, k162_2, k162_r, @k162_s⟩
theorem c162 {m : Nat} {is : List AOp} {ls st : List Value} {E : AEn} {hi : AHi} {hr : AHr} {n : Nat} {Q : ARs → Prop} (x0 : Nat) (x1 : Int32) (x2 : Int32) : Tm E m (o_call 162 :: is) ls (.int x2 :: .int x1 :: .ref x0 :: st) hi hr n Q ↔ (a_kd x0 = 10 ∧ x0 < n ∧ st.length ≤ 4) ∧ Sp E 162 [.ref x0, .int x1, .int x2] hi hr n (fun r => Tm E m is ls (r.1.toList ++ st) r.2.1 r.2.2.1 r.2.2.2 Q) := T_cI [.int x1, .int x2] rfl rfl rfl rfl
/-! CartoonHouse.unmark()I -/
theorem k163_0 : a_bl 163 0 = [o_al 0, o_getR 10 7, o_getI 7 2, o_is 1, o_al 0, o_getR 10 7, o_I (J 0), o_putI 7 2, o_il 1, o_ret 1] := rfl
theorem k163_r : a_rt 163 = (some .int) := rfl
theorem k163_s {E : AEn} {hi : AHi} {hr : AHr} {n : Nat} {Q : ARs → Prop} (x0 : Nat) : Sp E 163 [.ref x0] hi hr n Q ↔ Tm E 163 (a_bl 163 0) [.ref x0, a_mk] [] hi hr n Q := Iff.rfl
theorem K163 : (type_of% k163_0) ∧ (type_of% k163_r) ∧ (type_of% @k163_s) := ⟨k163_0, k163_r, @k163_s⟩
theorem c163 {m : Nat} {is : List AOp} {ls st : List Value} {E : AEn} {hi : AHi} {hr : AHr} {n : Nat} {Q : ARs → Prop} (x0 : Nat) : Tm E m (o_call 163 :: is) ls (.ref x0 :: st) hi hr n Q ↔ (a_kd x0 = 10 ∧ x0 < n ∧ st.length ≤ 4) ∧ Sp E 163 [.ref x0] hi hr n (fun r => Tm E m is ls (r.1.toList ++ st) r.2.1 r.2.2.1 r.2.2.2 Q) := T_cI [] rfl rfl rfl rfl
/-! CartoonHouse.match(II)I -/
theorem k164_0 : a_bl 164 0 = [o_il 1, o_call 137, o_if 0 1, o_il 2, o_call 137, o_if 1 2, o_ft 1] := rfl
theorem k164_1 : a_bl 164 1 = [o_I (J (-1)), o_ret 1] := rfl
theorem k164_2 : a_bl 164 2 = [o_al 0, o_getR 10 7, o_al 0, o_getR 10 2, o_il 1, o_aald, o_al 0, o_getR 10 2, o_il 2, o_aald, o_call 81, o_is 3, o_al 0, o_getR 10 7, o_call 87, o_il 3, o_ret 1] := rfl
theorem k164_r : a_rt 164 = (some .int) := rfl
theorem k164_s {E : AEn} {hi : AHi} {hr : AHr} {n : Nat} {Q : ARs → Prop} (x0 : Nat) (x1 : Int32) (x2 : Int32) : Sp E 164 [.ref x0, .int x1, .int x2] hi hr n Q ↔ Tm E 164 (a_bl 164 0) [.ref x0, .int x1, .int x2, a_mk] [] hi hr n Q := Iff.rfl
theorem K164 : (type_of% k164_0) ∧ (type_of% k164_1) ∧ (type_of% k164_2) ∧ (type_of% k164_r) ∧ (type_of% @k164_s) := ⟨k164_0, k164_1, k164_2, k164_r, @k164_s⟩
theorem c164 {m : Nat} {is : List AOp} {ls st : List Value} {E : AEn} {hi : AHi} {hr : AHr} {n : Nat} {Q : ARs → Prop} (x0 : Nat) (x1 : Int32) (x2 : Int32) : Tm E m (o_call 164 :: is) ls (.int x2 :: .int x1 :: .ref x0 :: st) hi hr n Q ↔ (a_kd x0 = 10 ∧ x0 < n ∧ st.length ≤ 4) ∧ Sp E 164 [.ref x0, .int x1, .int x2] hi hr n (fun r => Tm E m is ls (r.1.toList ++ st) r.2.1 r.2.2.1 r.2.2.2 Q) := T_cI [.int x1, .int x2] rfl rfl rfl rfl
/-! CartoonHouse.partner(I)I -/
theorem k165_0 : a_bl 165 0 = [o_al 0, o_getR 10 7, o_il 1, o_call 88, o_ret 1] := rfl
theorem k165_r : a_rt 165 = (some .int) := rfl
theorem k165_s {E : AEn} {hi : AHi} {hr : AHr} {n : Nat} {Q : ARs → Prop} (x0 : Nat) (x1 : Int32) : Sp E 165 [.ref x0, .int x1] hi hr n Q ↔ Tm E 165 (a_bl 165 0) [.ref x0, .int x1] [] hi hr n Q := Iff.rfl
theorem K165 : (type_of% k165_0) ∧ (type_of% k165_r) ∧ (type_of% @k165_s) := ⟨k165_0, k165_r, @k165_s⟩
theorem c165 {m : Nat} {is : List AOp} {ls st : List Value} {E : AEn} {hi : AHi} {hr : AHr} {n : Nat} {Q : ARs → Prop} (x0 : Nat) (x1 : Int32) : Tm E m (o_call 165 :: is) ls (.int x1 :: .ref x0 :: st) hi hr n Q ↔ (a_kd x0 = 10 ∧ x0 < n ∧ st.length ≤ 4) ∧ Sp E 165 [.ref x0, .int x1] hi hr n (fun r => Tm E m is ls (r.1.toList ++ st) r.2.1 r.2.2.1 r.2.2.2 Q) := T_cI [.int x1] rfl rfl rfl rfl
/-! CartoonHouse.tween(IIIII)I -/
theorem k166_0 : a_bl 166 0 = [o_il 1, o_call 137, o_if 0 1, o_il 2, o_call 137, o_if 0 1, o_il 5, o_call 137, o_if 1 2, o_ft 1] := rfl
theorem k166_1 : a_bl 166 1 = [o_I (J (-1)), o_ret 1] := rfl
theorem k166_2 : a_bl 166 2 = [o_il 4, o_I (J 1), o_I (J 24), o_call 138, o_if 0 3, o_il 3, o_I (J 0), o_il 4, o_call 138, o_if 0 3, o_il 5, o_il 1, o_ic 0 3, o_il 5, o_il 2, o_ic 1 4, o_ft 3] := rfl
theorem k166_3 : a_bl 166 3 = [o_I (J (-1)), o_ret 1] := rfl
theorem k166_4 : a_bl 166 4 = [o_al 0, o_getR 10 2, o_il 5, o_aald, o_as 6, o_il 3, o_if 1 5, o_al 6, o_al 0, o_getR 10 2, o_il 1, o_aald, o_call 43, o_goto 7] := rfl
theorem k166_5 : a_bl 166 5 = [o_il 3, o_il 4, o_ic 1 6, o_al 6, o_al 0, o_getR 10 2, o_il 2, o_aald, o_call 43, o_goto 7] := rfl
theorem k166_6 : a_bl 166 6 = [o_al 0, o_getR 10 7, o_al 0, o_getR 10 2, o_il 1, o_aald, o_al 0, o_getR 10 2, o_il 2, o_aald, o_call 81, o_pop, o_al 6, o_al 0, o_getR 10 2, o_il 1, o_aald, o_al 0, o_getR 10 2, o_il 2, o_aald, o_al 0, o_getR 10 7, o_getR 7 5, o_il 3, o_il 4, o_call 46, o_ft 7] := rfl
theorem k166_7 : a_bl 166 7 = [o_al 6, o_al 0, o_getR 10 2, o_I (J 2), o_il 3, o_bin 2, o_il 4, o_ic 3 8, o_il 1, o_goto 9] := rfl
theorem k166_8 : a_bl 166 8 = [o_il 2, o_ft 9] := rfl
theorem k166_9 : a_bl 166 9 = [o_aald, o_call 48, o_al 6, o_getI 3 1, o_ret 1] := rfl
theorem k166_r : a_rt 166 = (some .int) := rfl
theorem k166_s {E : AEn} {hi : AHi} {hr : AHr} {n : Nat} {Q : ARs → Prop} (x0 : Nat) (x1 : Int32) (x2 : Int32) (x3 : Int32) (x4 : Int32) (x5 : Int32) : Sp E 166 [.ref x0, .int x1, .int x2, .int x3, .int x4, .int x5] hi hr n Q ↔ Tm E 166 (a_bl 166 0) [.ref x0, .int x1, .int x2, .int x3, .int x4, .int x5, a_mk] [] hi hr n Q := Iff.rfl
theorem K166 : (type_of% k166_0) ∧ (type_of% k166_1) ∧ (type_of% k166_2) ∧ (type_of% k166_3) ∧ (type_of% k166_4) ∧ (type_of% k166_5) ∧ (type_of% k166_6) ∧ (type_of% k166_7) ∧ (type_of% k166_8) ∧ (type_of% k166_9) ∧ (type_of% k166_r) ∧ (type_of% @k166_s) := ⟨k166_0, k166_1, k166_2, k166_3, k166_4, k166_5, k166_6, k166_7, k166_8, k166_9, k166_r, @k166_s⟩
theorem c166 {m : Nat} {is : List AOp} {ls st : List Value} {E : AEn} {hi : AHi} {hr : AHr} {n : Nat} {Q : ARs → Prop} (x0 : Nat) (x1 : Int32) (x2 : Int32) (x3 : Int32) (x4 : Int32) (x5 : Int32) : Tm E m (o_call 166 :: is) ls (.int x5 :: .int x4 :: .int x3 :: .int x2 :: .int x1 :: .ref x0 :: st) hi hr n Q ↔ (a_kd x0 = 10 ∧ x0 < n ∧ st.length ≤ 4) ∧ Sp E 166 [.ref x0, .int x1, .int x2, .int x3, .int x4, .int x5] hi hr n (fun r => Tm E m is ls (r.1.toList ++ st) r.2.1 r.2.2.1 r.2.2.2 Q) := T_cI [.int x1, .int x2, .int x3, .int x4, .int x5] rfl rfl rfl rfl
/-! CartoonHouse.bone(IIII)I -/
theorem k167_0 : a_bl 167 0 = [o_al 0, o_getI 10 10, o_if 1 2, o_il 1, o_I (J (-1)), o_ic 1 1, o_I (J 1), o_goto 3] := rfl
theorem k167_1 : a_bl 167 1 = [o_I (J 0), o_goto 3] := rfl
theorem k167_2 : a_bl 167 2 = [o_al 0, o_il 1, o_call 168, o_ft 3] := rfl
theorem k167_3 : a_bl 167 3 = [o_is 5, o_il 5, o_if 0 4, o_il 2, o_I (J 0), o_I (J 40), o_call 138, o_if 0 4, o_il 4, o_I (J 0), o_I (J 31), o_call 138, o_if 0 4, o_il 3, o_I (J 0), o_il 4, o_call 138, o_if 1 5, o_ft 4] := rfl
theorem k167_4 : a_bl 167 4 = [o_I (J (-1)), o_ret 1] := rfl
theorem k167_5 : a_bl 167 5 = [o_al 0, o_getI 10 10, o_I (J 10), o_ic 2 6, o_I (J (-4)), o_ret 1] := rfl
theorem k167_6 : a_bl 167 6 = [o_al 0, o_getR 10 8, o_al 0, o_getI 10 10, o_aald, o_al 0, o_getI 10 10, o_if 1 7, o_al 0, o_getR 10 9, o_goto 8] := rfl
theorem k167_7 : a_bl 167 7 = [o_al 0, o_getR 10 8, o_il 1, o_aald, o_ft 8] := rfl
theorem k167_8 : a_bl 167 8 = [o_il 2, o_il 3, o_il 4, o_call 1, o_al 0, o_dup, o_getI 10 10, o_I (J 1), o_bin 0, o_putI 10 10, o_al 0, o_getI 10 10, o_I (J 1), o_bin 1, o_ret 1] := rfl
theorem k167_r : a_rt 167 = (some .int) := rfl
theorem k167_s {E : AEn} {hi : AHi} {hr : AHr} {n : Nat} {Q : ARs → Prop} (x0 : Nat) (x1 : Int32) (x2 : Int32) (x3 : Int32) (x4 : Int32) : Sp E 167 [.ref x0, .int x1, .int x2, .int x3, .int x4] hi hr n Q ↔ Tm E 167 (a_bl 167 0) [.ref x0, .int x1, .int x2, .int x3, .int x4, a_mk] [] hi hr n Q := Iff.rfl
theorem K167 : (type_of% k167_0) ∧ (type_of% k167_1) ∧ (type_of% k167_2) ∧ (type_of% k167_3) ∧ (type_of% k167_4) ∧ (type_of% k167_5) ∧ (type_of% k167_6) ∧ (type_of% k167_7) ∧ (type_of% k167_8) ∧ (type_of% k167_r) ∧ (type_of% @k167_s) := ⟨k167_0, k167_1, k167_2, k167_3, k167_4, k167_5, k167_6, k167_7, k167_8, k167_r, @k167_s⟩
theorem c167 {m : Nat} {is : List AOp} {ls st : List Value} {E : AEn} {hi : AHi} {hr : AHr} {n : Nat} {Q : ARs → Prop} (x0 : Nat) (x1 : Int32) (x2 : Int32) (x3 : Int32) (x4 : Int32) : Tm E m (o_call 167 :: is) ls (.int x4 :: .int x3 :: .int x2 :: .int x1 :: .ref x0 :: st) hi hr n Q ↔ (a_kd x0 = 10 ∧ x0 < n ∧ st.length ≤ 4) ∧ Sp E 167 [.ref x0, .int x1, .int x2, .int x3, .int x4] hi hr n (fun r => Tm E m is ls (r.1.toList ++ st) r.2.1 r.2.2.1 r.2.2.2 Q) := T_cI [.int x1, .int x2, .int x3, .int x4] rfl rfl rfl rfl
/-! CartoonHouse.isBone(I)Z -/
theorem k168_0 : a_bl 168 0 = [o_il 1, o_I (J 0), o_al 0, o_getI 10 10, o_I (J 1), o_bin 1, o_call 138, o_ret 1] := rfl
theorem k168_r : a_rt 168 = (some .boolean) := rfl
theorem k168_s {E : AEn} {hi : AHi} {hr : AHr} {n : Nat} {Q : ARs → Prop} (x0 : Nat) (x1 : Int32) : Sp E 168 [.ref x0, .int x1] hi hr n Q ↔ Tm E 168 (a_bl 168 0) [.ref x0, .int x1] [] hi hr n Q := Iff.rfl
theorem K168 : (type_of% k168_0) ∧ (type_of% k168_r) ∧ (type_of% @k168_s) := ⟨k168_0, k168_r, @k168_s⟩
theorem c168 {m : Nat} {is : List AOp} {ls st : List Value} {E : AEn} {hi : AHi} {hr : AHr} {n : Nat} {Q : ARs → Prop} (x0 : Nat) (x1 : Int32) : Tm E m (o_call 168 :: is) ls (.int x1 :: .ref x0 :: st) hi hr n Q ↔ (a_kd x0 = 10 ∧ x0 < n ∧ st.length ≤ 4) ∧ Sp E 168 [.ref x0, .int x1] hi hr n (fun r => Tm E m is ls (r.1.toList ++ st) r.2.1 r.2.2.1 r.2.2.2 Q) := T_cI [.int x1] rfl rfl rfl rfl
/-! CartoonHouse.sine(I)I -/
theorem k169_0 : a_bl 169 0 = [o_il 0, o_I (J 31), o_bin 3, o_is 1, o_il 1, o_I (J 15), o_bin 3, o_is 2, o_cR 1, o_il 2, o_I (J 8), o_ic 4 1, o_il 2, o_goto 2] := rfl
theorem k169_1 : a_bl 169 1 = [o_I (J 16), o_il 2, o_bin 1, o_ft 2] := rfl
theorem k169_2 : a_bl 169 2 = [o_iald, o_is 3, o_il 1, o_I (J 16), o_ic 3 3, o_il 3, o_goto 4] := rfl
theorem k169_3 : a_bl 169 3 = [o_il 3, o_un 0, o_ft 4] := rfl
theorem k169_4 : a_bl 169 4 = [o_ret 1] := rfl
theorem k169_r : a_rt 169 = (some .int) := rfl
theorem k169_s {E : AEn} {hi : AHi} {hr : AHr} {n : Nat} {Q : ARs → Prop} (x0 : Int32) : Sp E 169 [.int x0] hi hr n Q ↔ Tm E 169 (a_bl 169 0) [.int x0, a_mk, a_mk, a_mk] [] hi hr n Q := Iff.rfl
theorem K169 : (type_of% k169_0) ∧ (type_of% k169_1) ∧ (type_of% k169_2) ∧ (type_of% k169_3) ∧ (type_of% k169_4) ∧ (type_of% k169_r) ∧ (type_of% @k169_s) := ⟨k169_0, k169_1, k169_2, k169_3, k169_4, k169_r, @k169_s⟩
theorem c169 {m : Nat} {is : List AOp} {ls st : List Value} {E : AEn} {hi : AHi} {hr : AHr} {n : Nat} {Q : ARs → Prop} (x0 : Int32) : Tm E m (o_call 169 :: is) ls (.int x0 :: st) hi hr n Q ↔ st.length ≤ 4 ∧ Sp E 169 [.int x0] hi hr n (fun r => Tm E m is ls (r.1.toList ++ st) r.2.1 r.2.2.1 r.2.2.2 Q) := T_cS [.int x0] rfl rfl
/-! CartoonHouse.pivot(II)I -/
theorem k170_0 : a_bl 170 0 = [o_il 1, o_il 2, o_call 171, o_if 1 1, o_I (J (-1)), o_ret 1] := rfl
theorem k170_1 : a_bl 170 1 = [o_al 0, o_il 1, o_putI 10 11, o_al 0, o_il 2, o_putI 10 12, o_I (J 1), o_ret 1] := rfl
theorem k170_r : a_rt 170 = (some .int) := rfl
theorem k170_s {E : AEn} {hi : AHi} {hr : AHr} {n : Nat} {Q : ARs → Prop} (x0 : Nat) (x1 : Int32) (x2 : Int32) : Sp E 170 [.ref x0, .int x1, .int x2] hi hr n Q ↔ Tm E 170 (a_bl 170 0) [.ref x0, .int x1, .int x2] [] hi hr n Q := Iff.rfl
theorem K170 : (type_of% k170_0) ∧ (type_of% k170_1) ∧ (type_of% k170_r) ∧ (type_of% @k170_s) := ⟨k170_0, k170_1, k170_r, @k170_s⟩
theorem c170 {m : Nat} {is : List AOp} {ls st : List Value} {E : AEn} {hi : AHi} {hr : AHr} {n : Nat} {Q : ARs → Prop} (x0 : Nat) (x1 : Int32) (x2 : Int32) : Tm E m (o_call 170 :: is) ls (.int x2 :: .int x1 :: .ref x0 :: st) hi hr n Q ↔ (a_kd x0 = 10 ∧ x0 < n ∧ st.length ≤ 4) ∧ Sp E 170 [.ref x0, .int x1, .int x2] hi hr n (fun r => Tm E m is ls (r.1.toList ++ st) r.2.1 r.2.2.1 r.2.2.2 Q) := T_cI [.int x1, .int x2] rfl rfl rfl rfl
/-! CartoonHouse.isNear(II)Z -/
theorem k171_0 : a_bl 171 0 = [o_il 0, o_I (J (-400)), o_I (J 400), o_call 138, o_if 0 1, o_il 1, o_I (J (-400)), o_I (J 400), o_call 138, o_if 0 1, o_I (J 1), o_goto 2] := rfl
theorem k171_1 : a_bl 171 1 = [o_I (J 0), o_ft 2] := rfl
theorem k171_2 : a_bl 171 2 = [o_ret 1] := rfl
theorem k171_r : a_rt 171 = (some .boolean) := rfl
theorem k171_s {E : AEn} {hi : AHi} {hr : AHr} {n : Nat} {Q : ARs → Prop} (x0 : Int32) (x1 : Int32) : Sp E 171 [.int x0, .int x1] hi hr n Q ↔ Tm E 171 (a_bl 171 0) [.int x0, .int x1] [] hi hr n Q := Iff.rfl
theorem K171 : (type_of% k171_0) ∧ (type_of% k171_1) ∧ (type_of% k171_2) ∧ (type_of% k171_r) ∧ (type_of% @k171_s) := ⟨k171_0, k171_1, k171_2, k171_r, @k171_s⟩
theorem c171 {m : Nat} {is : List AOp} {ls st : List Value} {E : AEn} {hi : AHi} {hr : AHr} {n : Nat} {Q : ARs → Prop} (x0 : Int32) (x1 : Int32) : Tm E m (o_call 171 :: is) ls (.int x1 :: .int x0 :: st) hi hr n Q ↔ st.length ≤ 4 ∧ Sp E 171 [.int x0, .int x1] hi hr n (fun r => Tm E m is ls (r.1.toList ++ st) r.2.1 r.2.2.1 r.2.2.2 Q) := T_cS [.int x0, .int x1] rfl rfl
/-! CartoonHouse.key(III)I -/
theorem k172_0 : a_bl 172 0 = [o_al 0, o_il 1, o_call 168, o_if 0 1, o_il 2, o_call 173, o_if 0 1, o_il 3, o_al 0, o_getR 10 8, o_il 1, o_aald, o_getI 0 1, o_al 0, o_getR 10 8, o_il 1, o_aald, o_getI 0 2, o_call 138, o_if 1 2, o_ft 1] := rfl
theorem k172_1 : a_bl 172 1 = [o_I (J (-1)), o_ret 1] := rfl
theorem k172_2 : a_bl 172 2 = [o_al 0, o_getR 10 8, o_il 1, o_aald, o_getR 0 3, o_as 4, o_al 4, o_il 2, o_call 51, o_if 1 3, o_I (J (-4)), o_ret 1] := rfl
theorem k172_3 : a_bl 172 3 = [o_al 4, o_il 2, o_il 3, o_call 54, o_al 4, o_getI 4 2, o_ret 1] := rfl
theorem k172_r : a_rt 172 = (some .int) := rfl
theorem k172_s {E : AEn} {hi : AHi} {hr : AHr} {n : Nat} {Q : ARs → Prop} (x0 : Nat) (x1 : Int32) (x2 : Int32) (x3 : Int32) : Sp E 172 [.ref x0, .int x1, .int x2, .int x3] hi hr n Q ↔ Tm E 172 (a_bl 172 0) [.ref x0, .int x1, .int x2, .int x3, a_mk] [] hi hr n Q := Iff.rfl
theorem K172 : (type_of% k172_0) ∧ (type_of% k172_1) ∧ (type_of% k172_2) ∧ (type_of% k172_3) ∧ (type_of% k172_r) ∧ (type_of% @k172_s) := ⟨k172_0, k172_1, k172_2, k172_3, k172_r, @k172_s⟩
theorem c172 {m : Nat} {is : List AOp} {ls st : List Value} {E : AEn} {hi : AHi} {hr : AHr} {n : Nat} {Q : ARs → Prop} (x0 : Nat) (x1 : Int32) (x2 : Int32) (x3 : Int32) : Tm E m (o_call 172 :: is) ls (.int x3 :: .int x2 :: .int x1 :: .ref x0 :: st) hi hr n Q ↔ (a_kd x0 = 10 ∧ x0 < n ∧ st.length ≤ 4) ∧ Sp E 172 [.ref x0, .int x1, .int x2, .int x3] hi hr n (fun r => Tm E m is ls (r.1.toList ++ st) r.2.1 r.2.2.1 r.2.2.2 Q) := T_cI [.int x1, .int x2, .int x3] rfl rfl rfl rfl
/-! CartoonHouse.isFrame(I)Z -/
theorem k173_0 : a_bl 173 0 = [o_il 0, o_I (J 0), o_I (J 119), o_call 138, o_ret 1] := rfl
theorem k173_r : a_rt 173 = (some .boolean) := rfl
theorem k173_s {E : AEn} {hi : AHi} {hr : AHr} {n : Nat} {Q : ARs → Prop} (x0 : Int32) : Sp E 173 [.int x0] hi hr n Q ↔ Tm E 173 (a_bl 173 0) [.int x0] [] hi hr n Q := Iff.rfl
theorem K173 : (type_of% k173_0) ∧ (type_of% k173_r) ∧ (type_of% @k173_s) := ⟨k173_0, k173_r, @k173_s⟩
theorem c173 {m : Nat} {is : List AOp} {ls st : List Value} {E : AEn} {hi : AHi} {hr : AHr} {n : Nat} {Q : ARs → Prop} (x0 : Int32) : Tm E m (o_call 173 :: is) ls (.int x0 :: st) hi hr n Q ↔ st.length ≤ 4 ∧ Sp E 173 [.int x0] hi hr n (fun r => Tm E m is ls (r.1.toList ++ st) r.2.1 r.2.2.1 r.2.2.2 Q) := T_cS [.int x0] rfl rfl
/-! CartoonHouse.angle(II)I -/
theorem k174_0 : a_bl 174 0 = [o_al 0, o_il 1, o_call 168, o_if 0 1, o_il 2, o_call 173, o_if 1 2, o_ft 1] := rfl
theorem k174_1 : a_bl 174 1 = [o_I (J (-1)), o_ret 1] := rfl
theorem k174_2 : a_bl 174 2 = [o_al 0, o_getR 10 8, o_il 1, o_aald, o_il 2, o_call 2, o_ret 1] := rfl
theorem k174_r : a_rt 174 = (some .int) := rfl
theorem k174_s {E : AEn} {hi : AHi} {hr : AHr} {n : Nat} {Q : ARs → Prop} (x0 : Nat) (x1 : Int32) (x2 : Int32) : Sp E 174 [.ref x0, .int x1, .int x2] hi hr n Q ↔ Tm E 174 (a_bl 174 0) [.ref x0, .int x1, .int x2] [] hi hr n Q := Iff.rfl
theorem K174 : (type_of% k174_0) ∧ (type_of% k174_1) ∧ (type_of% k174_2) ∧ (type_of% k174_r) ∧ (type_of% @k174_s) := ⟨k174_0, k174_1, k174_2, k174_r, @k174_s⟩
theorem c174 {m : Nat} {is : List AOp} {ls st : List Value} {E : AEn} {hi : AHi} {hr : AHr} {n : Nat} {Q : ARs → Prop} (x0 : Nat) (x1 : Int32) (x2 : Int32) : Tm E m (o_call 174 :: is) ls (.int x2 :: .int x1 :: .ref x0 :: st) hi hr n Q ↔ (a_kd x0 = 10 ∧ x0 < n ∧ st.length ≤ 4) ∧ Sp E 174 [.ref x0, .int x1, .int x2] hi hr n (fun r => Tm E m is ls (r.1.toList ++ st) r.2.1 r.2.2.1 r.2.2.2 Q) := T_cI [.int x1, .int x2] rfl rfl rfl rfl
/-! CartoonHouse.at(III)I -/
theorem k175_0 : a_bl 175 0 = [o_al 0, o_il 1, o_call 168, o_if 0 1, o_il 2, o_call 173, o_if 0 1, o_il 3, o_I (J 0), o_I (J 1), o_call 138, o_if 1 2, o_ft 1] := rfl
theorem k175_1 : a_bl 175 1 = [o_I (J (-100000)), o_ret 1] := rfl
theorem k175_2 : a_bl 175 2 = [o_il 3, o_if 1 3, o_al 0, o_getI 10 11, o_goto 4] := rfl
theorem k175_3 : a_bl 175 3 = [o_al 0, o_getI 10 12, o_ft 4] := rfl
theorem k175_4 : a_bl 175 4 = [o_al 0, o_getR 10 8, o_il 1, o_aald, o_il 2, o_il 3, o_call 3, o_bin 0, o_ret 1] := rfl
theorem k175_r : a_rt 175 = (some .int) := rfl
theorem k175_s {E : AEn} {hi : AHi} {hr : AHr} {n : Nat} {Q : ARs → Prop} (x0 : Nat) (x1 : Int32) (x2 : Int32) (x3 : Int32) : Sp E 175 [.ref x0, .int x1, .int x2, .int x3] hi hr n Q ↔ Tm E 175 (a_bl 175 0) [.ref x0, .int x1, .int x2, .int x3] [] hi hr n Q := Iff.rfl
theorem K175 : (type_of% k175_0) ∧ (type_of% k175_1) ∧ (type_of% k175_2) ∧ (type_of% k175_3) ∧ (type_of% k175_4) ∧ (type_of% k175_r) ∧ (type_of% @k175_s) := ⟨k175_0, k175_1, k175_2, k175_3, k175_4, k175_r, @k175_s⟩
theorem c175 {m : Nat} {is : List AOp} {ls st : List Value} {E : AEn} {hi : AHi} {hr : AHr} {n : Nat} {Q : ARs → Prop} (x0 : Nat) (x1 : Int32) (x2 : Int32) (x3 : Int32) : Tm E m (o_call 175 :: is) ls (.int x3 :: .int x2 :: .int x1 :: .ref x0 :: st) hi hr n Q ↔ (a_kd x0 = 10 ∧ x0 < n ∧ st.length ≤ 4) ∧ Sp E 175 [.ref x0, .int x1, .int x2, .int x3] hi hr n (fun r => Tm E m is ls (r.1.toList ++ st) r.2.1 r.2.2.1 r.2.2.2 Q) := T_cI [.int x1, .int x2, .int x3] rfl rfl rfl rfl
/-! CartoonHouse.reach(IIII)I -/
theorem k176_0 : a_bl 176 0 = [o_al 0, o_il 1, o_call 168, o_if 0 1, o_il 2, o_call 173, o_if 0 1, o_il 3, o_il 4, o_call 171, o_if 1 2, o_ft 1] := rfl
theorem k176_1 : a_bl 176 1 = [o_I (J (-1)), o_ret 1] := rfl
theorem k176_2 : a_bl 176 2 = [o_al 0, o_getR 10 8, o_il 1, o_aald, o_as 5, o_al 5, o_call 5, o_as 6, o_al 6, o_call 5, o_as 7, o_al 0, o_al 5, o_il 2, o_call 177, o_if 0 3, o_al 0, o_al 6, o_il 2, o_call 177, o_if 0 3, o_al 0, o_al 7, o_il 2, o_call 177, o_if 1 4, o_ft 3] := rfl
theorem k176_3 : a_bl 176 3 = [o_I (J (-4)), o_ret 1] := rfl
theorem k176_4 : a_bl 176 4 = [o_al 5, o_il 2, o_il 3, o_al 0, o_getI 10 11, o_bin 1, o_il 4, o_al 0, o_getI 10 12, o_bin 1, o_call 6, o_is 8, o_al 0, o_al 7, o_il 2, o_il 8, o_I (J 1024), o_bin 9, o_call 178, o_al 0, o_al 6, o_il 2, o_il 8, o_I (J 32), o_bin 9, o_I (J 32), o_bin 10, o_call 178, o_al 0, o_al 5, o_il 2, o_il 8, o_I (J 32), o_bin 10, o_call 178, o_al 0, o_getI 10 11, o_al 5, o_il 2, o_I (J 0), o_call 3, o_bin 0, o_il 3, o_bin 1, o_is 9, o_al 0, o_getI 10 12, o_al 5, o_il 2, o_I (J 1), o_call 3, o_bin 0, o_il 4, o_bin 1, o_is 10, o_il 9, o_il 9, o_bin 2, o_il 10, o_il 10, o_bin 2, o_bin 0, o_ret 1] := rfl
theorem k176_r : a_rt 176 = (some .int) := rfl
theorem k176_s {E : AEn} {hi : AHi} {hr : AHr} {n : Nat} {Q : ARs → Prop} (x0 : Nat) (x1 : Int32) (x2 : Int32) (x3 : Int32) (x4 : Int32) : Sp E 176 [.ref x0, .int x1, .int x2, .int x3, .int x4] hi hr n Q ↔ Tm E 176 (a_bl 176 0) [.ref x0, .int x1, .int x2, .int x3, .int x4, a_mk, a_mk, a_mk, a_mk, a_mk, a_mk] [] hi hr n Q := Iff.rfl
theorem K176 : (type_of% k176_0) ∧ (type_of% k176_1) ∧ (type_of% k176_2) ∧ (type_of% k176_3) ∧ (type_of% k176_4) ∧ (type_of% k176_r) ∧ (type_of% @k176_s) := ⟨k176_0, k176_1, k176_2, k176_3, k176_4, k176_r, @k176_s⟩
theorem c176 {m : Nat} {is : List AOp} {ls st : List Value} {E : AEn} {hi : AHi} {hr : AHr} {n : Nat} {Q : ARs → Prop} (x0 : Nat) (x1 : Int32) (x2 : Int32) (x3 : Int32) (x4 : Int32) : Tm E m (o_call 176 :: is) ls (.int x4 :: .int x3 :: .int x2 :: .int x1 :: .ref x0 :: st) hi hr n Q ↔ (a_kd x0 = 10 ∧ x0 < n ∧ st.length ≤ 4) ∧ Sp E 176 [.ref x0, .int x1, .int x2, .int x3, .int x4] hi hr n (fun r => Tm E m is ls (r.1.toList ++ st) r.2.1 r.2.2.1 r.2.2.2 Q) := T_cI [.int x1, .int x2, .int x3, .int x4] rfl rfl rfl rfl
/-! CartoonHouse.canKey(LCartoonHouse$Bone;I)Z -/
theorem k177_0 : a_bl 177 0 = [o_al 1, o_al 0, o_getR 10 9, o_ae 1, o_al 1, o_getR 0 3, o_il 2, o_call 51, o_if 0 2, o_ft 1] := rfl
theorem k177_1 : a_bl 177 1 = [o_I (J 1), o_goto 3] := rfl
theorem k177_2 : a_bl 177 2 = [o_I (J 0), o_ft 3] := rfl
theorem k177_3 : a_bl 177 3 = [o_ret 1] := rfl
theorem k177_r : a_rt 177 = (some .boolean) := rfl
theorem k177_s {E : AEn} {hi : AHi} {hr : AHr} {n : Nat} {Q : ARs → Prop} (x0 : Nat) (x1 : Nat) (x2 : Int32) : Sp E 177 [.ref x0, .ref x1, .int x2] hi hr n Q ↔ Tm E 177 (a_bl 177 0) [.ref x0, .ref x1, .int x2] [] hi hr n Q := Iff.rfl
theorem K177 : (type_of% k177_0) ∧ (type_of% k177_1) ∧ (type_of% k177_2) ∧ (type_of% k177_3) ∧ (type_of% k177_r) ∧ (type_of% @k177_s) := ⟨k177_0, k177_1, k177_2, k177_3, k177_r, @k177_s⟩
theorem c177 {m : Nat} {is : List AOp} {ls st : List Value} {E : AEn} {hi : AHi} {hr : AHr} {n : Nat} {Q : ARs → Prop} (x0 : Nat) (x1 : Nat) (x2 : Int32) : Tm E m (o_call 177 :: is) ls (.int x2 :: .ref x1 :: .ref x0 :: st) hi hr n Q ↔ (a_kd x0 = 10 ∧ x0 < n ∧ st.length ≤ 4) ∧ Sp E 177 [.ref x0, .ref x1, .int x2] hi hr n (fun r => Tm E m is ls (r.1.toList ++ st) r.2.1 r.2.2.1 r.2.2.2 Q) := T_cI [.ref x1, .int x2] rfl rfl rfl rfl
/-! CartoonHouse.setKey(LCartoonHouse$Bone;II)V -/
theorem k178_0 : a_bl 178 0 = [o_al 1, o_al 0, o_getR 10 9, o_ae 1, o_al 1, o_getR 0 3, o_il 2, o_il 3, o_call 54, o_ft 1] := rfl
theorem k178_1 : a_bl 178 1 = [o_ret 0] := rfl
theorem k178_r : a_rt 178 = none := rfl
theorem k178_s {E : AEn} {hi : AHi} {hr : AHr} {n : Nat} {Q : ARs → Prop} (x0 : Nat) (x1 : Nat) (x2 : Int32) (x3 : Int32) : Sp E 178 [.ref x0, .ref x1, .int x2, .int x3] hi hr n Q ↔ Tm E 178 (a_bl 178 0) [.ref x0, .ref x1, .int x2, .int x3] [] hi hr n Q := Iff.rfl
theorem K178 : (type_of% k178_0) ∧ (type_of% k178_1) ∧ (type_of% k178_r) ∧ (type_of% @k178_s) := ⟨k178_0, k178_1, k178_r, @k178_s⟩
theorem c178 {m : Nat} {is : List AOp} {ls st : List Value} {E : AEn} {hi : AHi} {hr : AHr} {n : Nat} {Q : ARs → Prop} (x0 : Nat) (x1 : Nat) (x2 : Int32) (x3 : Int32) : Tm E m (o_call 178 :: is) ls (.int x3 :: .int x2 :: .ref x1 :: .ref x0 :: st) hi hr n Q ↔ (a_kd x0 = 10 ∧ x0 < n ∧ st.length ≤ 4) ∧ Sp E 178 [.ref x0, .ref x1, .int x2, .int x3] hi hr n (fun r => Tm E m is ls (r.1.toList ++ st) r.2.1 r.2.2.1 r.2.2.2 Q) := T_cI [.ref x1, .int x2, .int x3] rfl rfl rfl rfl
/-! CartoonHouse.swing(IIII)I -/
theorem k179_0 : a_bl 179 0 = [o_al 0, o_il 1, o_call 168, o_if 0 1, o_il 2, o_call 173, o_if 0 1, o_il 3, o_I (J 0), o_I (J 16), o_call 138, o_if 0 1, o_il 4, o_I (J 0), o_I (J 16), o_call 138, o_if 1 2, o_ft 1] := rfl
theorem k179_1 : a_bl 179 1 = [o_I (J (-1000000000)), o_ret 1] := rfl
theorem k179_2 : a_bl 179 2 = [o_al 0, o_getR 10 8, o_il 1, o_aald, o_il 2, o_il 3, o_il 4, o_call 7, o_ret 1] := rfl
theorem k179_r : a_rt 179 = (some .int) := rfl
theorem k179_s {E : AEn} {hi : AHi} {hr : AHr} {n : Nat} {Q : ARs → Prop} (x0 : Nat) (x1 : Int32) (x2 : Int32) (x3 : Int32) (x4 : Int32) : Sp E 179 [.ref x0, .int x1, .int x2, .int x3, .int x4] hi hr n Q ↔ Tm E 179 (a_bl 179 0) [.ref x0, .int x1, .int x2, .int x3, .int x4] [] hi hr n Q := Iff.rfl
theorem K179 : (type_of% k179_0) ∧ (type_of% k179_1) ∧ (type_of% k179_2) ∧ (type_of% k179_r) ∧ (type_of% @k179_s) := ⟨k179_0, k179_1, k179_2, k179_r, @k179_s⟩
theorem c179 {m : Nat} {is : List AOp} {ls st : List Value} {E : AEn} {hi : AHi} {hr : AHr} {n : Nat} {Q : ARs → Prop} (x0 : Nat) (x1 : Int32) (x2 : Int32) (x3 : Int32) (x4 : Int32) : Tm E m (o_call 179 :: is) ls (.int x4 :: .int x3 :: .int x2 :: .int x1 :: .ref x0 :: st) hi hr n Q ↔ (a_kd x0 = 10 ∧ x0 < n ∧ st.length ≤ 4) ∧ Sp E 179 [.ref x0, .int x1, .int x2, .int x3, .int x4] hi hr n (fun r => Tm E m is ls (r.1.toList ++ st) r.2.1 r.2.2.1 r.2.2.2 Q) := T_cI [.int x1, .int x2, .int x3, .int x4] rfl rfl rfl rfl
/-! CartoonHouse.language()I -/
theorem k180_0 : a_bl 180 0 = [o_al 0, o_getR 10 13, o_al 0, o_getR 10 0, o_call 69, o_is 1, o_al 0, o_getR 10 0, o_call 25, o_il 1, o_ret 1] := rfl
theorem k180_r : a_rt 180 = (some .int) := rfl
theorem k180_s {E : AEn} {hi : AHi} {hr : AHr} {n : Nat} {Q : ARs → Prop} (x0 : Nat) : Sp E 180 [.ref x0] hi hr n Q ↔ Tm E 180 (a_bl 180 0) [.ref x0, a_mk] [] hi hr n Q := Iff.rfl
theorem K180 : (type_of% k180_0) ∧ (type_of% k180_r) ∧ (type_of% @k180_s) := ⟨k180_0, k180_r, @k180_s⟩
theorem c180 {m : Nat} {is : List AOp} {ls st : List Value} {E : AEn} {hi : AHi} {hr : AHr} {n : Nat} {Q : ARs → Prop} (x0 : Nat) : Tm E m (o_call 180 :: is) ls (.ref x0 :: st) hi hr n Q ↔ (a_kd x0 = 10 ∧ x0 < n ∧ st.length ≤ 4) ∧ Sp E 180 [.ref x0] hi hr n (fun r => Tm E m is ls (r.1.toList ++ st) r.2.1 r.2.2.1 r.2.2.2 Q) := T_cI [] rfl rfl rfl rfl
/-! CartoonHouse.letter(I)I -/
theorem k181_0 : a_bl 181 0 = [o_il 1, o_I (J 0), o_I (J 25), o_call 138, o_if 0 1, o_al 0, o_getR 10 13, o_getR 6 0, o_il 1, o_iald, o_goto 2] := rfl
theorem k181_1 : a_bl 181 1 = [o_I (J (-1)), o_ft 2] := rfl
theorem k181_2 : a_bl 181 2 = [o_ret 1] := rfl
theorem k181_r : a_rt 181 = (some .int) := rfl
theorem k181_s {E : AEn} {hi : AHi} {hr : AHr} {n : Nat} {Q : ARs → Prop} (x0 : Nat) (x1 : Int32) : Sp E 181 [.ref x0, .int x1] hi hr n Q ↔ Tm E 181 (a_bl 181 0) [.ref x0, .int x1] [] hi hr n Q := Iff.rfl
theorem K181 : (type_of% k181_0) ∧ (type_of% k181_1) ∧ (type_of% k181_2) ∧ (type_of% k181_r) ∧ (type_of% @k181_s) := ⟨k181_0, k181_1, k181_2, k181_r, @k181_s⟩
theorem c181 {m : Nat} {is : List AOp} {ls st : List Value} {E : AEn} {hi : AHi} {hr : AHr} {n : Nat} {Q : ARs → Prop} (x0 : Nat) (x1 : Int32) : Tm E m (o_call 181 :: is) ls (.int x1 :: .ref x0 :: st) hi hr n Q ↔ (a_kd x0 = 10 ∧ x0 < n ∧ st.length ≤ 4) ∧ Sp E 181 [.ref x0, .int x1] hi hr n (fun r => Tm E m is ls (r.1.toList ++ st) r.2.1 r.2.2.1 r.2.2.2 Q) := T_cI [.int x1] rfl rfl rfl rfl
/-! CartoonHouse.speech()I -/
theorem k182_0 : a_bl 182 0 = [o_al 0, o_getR 10 13, o_al 0, o_getR 10 0, o_call 71, o_is 1, o_al 0, o_getR 10 0, o_call 25, o_il 1, o_ret 1] := rfl
theorem k182_r : a_rt 182 = (some .int) := rfl
theorem k182_s {E : AEn} {hi : AHi} {hr : AHr} {n : Nat} {Q : ARs → Prop} (x0 : Nat) : Sp E 182 [.ref x0] hi hr n Q ↔ Tm E 182 (a_bl 182 0) [.ref x0, a_mk] [] hi hr n Q := Iff.rfl
theorem K182 : (type_of% k182_0) ∧ (type_of% k182_r) ∧ (type_of% @k182_s) := ⟨k182_0, k182_r, @k182_s⟩
theorem c182 {m : Nat} {is : List AOp} {ls st : List Value} {E : AEn} {hi : AHi} {hr : AHr} {n : Nat} {Q : ARs → Prop} (x0 : Nat) : Tm E m (o_call 182 :: is) ls (.ref x0 :: st) hi hr n Q ↔ (a_kd x0 = 10 ∧ x0 < n ∧ st.length ≤ 4) ∧ Sp E 182 [.ref x0] hi hr n (fun r => Tm E m is ls (r.1.toList ++ st) r.2.1 r.2.2.1 r.2.2.2 Q) := T_cI [] rfl rfl rfl rfl
/-! CartoonHouse.mouth(II)I -/
theorem k183_0 : a_bl 183 0 = [o_al 0, o_getR 10 13, o_il 1, o_il 2, o_call 77, o_ret 1] := rfl
theorem k183_r : a_rt 183 = (some .int) := rfl
theorem k183_s {E : AEn} {hi : AHi} {hr : AHr} {n : Nat} {Q : ARs → Prop} (x0 : Nat) (x1 : Int32) (x2 : Int32) : Sp E 183 [.ref x0, .int x1, .int x2] hi hr n Q ↔ Tm E 183 (a_bl 183 0) [.ref x0, .int x1, .int x2] [] hi hr n Q := Iff.rfl
theorem K183 : (type_of% k183_0) ∧ (type_of% k183_r) ∧ (type_of% @k183_s) := ⟨k183_0, k183_r, @k183_s⟩
theorem c183 {m : Nat} {is : List AOp} {ls st : List Value} {E : AEn} {hi : AHi} {hr : AHr} {n : Nat} {Q : ARs → Prop} (x0 : Nat) (x1 : Int32) (x2 : Int32) : Tm E m (o_call 183 :: is) ls (.int x2 :: .int x1 :: .ref x0 :: st) hi hr n Q ↔ (a_kd x0 = 10 ∧ x0 < n ∧ st.length ≤ 4) ∧ Sp E 183 [.ref x0, .int x1, .int x2] hi hr n (fun r => Tm E m is ls (r.1.toList ++ st) r.2.1 r.2.2.1 r.2.2.2 Q) := T_cI [.int x1, .int x2] rfl rfl rfl rfl
/-! CartoonHouse.blink(II)I -/
theorem k184_0 : a_bl 184 0 = [o_il 2, o_I (J 0), o_I (J 9999), o_call 138, o_if 1 1, o_I (J (-1)), o_ret 1] := rfl
theorem k184_1 : a_bl 184 1 = [o_il 1, o_I (J 1103515245), o_bin 2, o_I (J 12345), o_bin 0, o_is 3, o_I (J 20), o_il 3, o_I (J 16), o_bin 8, o_I (J 32), o_bin 10, o_bin 0, o_is 4, o_I (J 0), o_is 5, o_ft 2] := rfl
theorem k184_2 : a_bl 184 2 = [o_il 5, o_I (J 10000), o_ic 3 3, o_il 4, o_I (J 3), o_bin 0, o_il 2, o_ic 4 3, o_il 3, o_I (J 1103515245), o_bin 2, o_I (J 12345), o_bin 0, o_is 3, o_il 4, o_I (J 24), o_il 3, o_I (J 16), o_bin 8, o_I (J 64), o_bin 10, o_bin 0, o_bin 0, o_is 4, o_iinc 5 (J 1), o_goto 2] := rfl
theorem k184_3 : a_bl 184 3 = [o_il 4, o_il 2, o_ic 4 4, o_il 2, o_il 4, o_I (J 3), o_bin 0, o_ic 3 4, o_I (J 1), o_goto 5] := rfl
theorem k184_4 : a_bl 184 4 = [o_I (J 0), o_ft 5] := rfl
theorem k184_5 : a_bl 184 5 = [o_ret 1] := rfl
theorem k184_r : a_rt 184 = (some .int) := rfl
theorem k184_s {E : AEn} {hi : AHi} {hr : AHr} {n : Nat} {Q : ARs → Prop} (x0 : Nat) (x1 : Int32) (x2 : Int32) : Sp E 184 [.ref x0, .int x1, .int x2] hi hr n Q ↔ Tm E 184 (a_bl 184 0) [.ref x0, .int x1, .int x2, a_mk, a_mk, a_mk] [] hi hr n Q := Iff.rfl
theorem K184 : (type_of% k184_0) ∧ (type_of% k184_1) ∧ (type_of% k184_3) ∧ (type_of% k184_4) ∧ (type_of% k184_5) ∧ (type_of% k184_r) ∧ (type_of% @k184_s) := ⟨k184_0, k184_1, k184_3, k184_4, k184_5, k184_r, @k184_s⟩
theorem c184 {m : Nat} {is : List AOp} {ls st : List Value} {E : AEn} {hi : AHi} {hr : AHr} {n : Nat} {Q : ARs → Prop} (x0 : Nat) (x1 : Int32) (x2 : Int32) : Tm E m (o_call 184 :: is) ls (.int x2 :: .int x1 :: .ref x0 :: st) hi hr n Q ↔ (a_kd x0 = 10 ∧ x0 < n ∧ st.length ≤ 4) ∧ Sp E 184 [.ref x0, .int x1, .int x2] hi hr n (fun r => Tm E m is ls (r.1.toList ++ st) r.2.1 r.2.2.1 r.2.2.2 Q) := T_cI [.int x1, .int x2] rfl rfl rfl rfl
/-! CartoonHouse.camera(IIII)I -/
theorem k185_0 : a_bl 185 0 = [o_il 1, o_call 173, o_if 0 1, o_il 2, o_il 3, o_call 171, o_if 0 1, o_il 4, o_if 0 2, o_il 4, o_I (J 16), o_I (J 256), o_call 138, o_if 1 2, o_ft 1] := rfl
theorem k185_1 : a_bl 185 1 = [o_I (J (-1)), o_ret 1] := rfl
theorem k185_2 : a_bl 185 2 = [o_il 4, o_if 1 5, o_I (J 0), o_is 5, o_ft 3] := rfl
theorem k185_3 : a_bl 185 3 = [o_il 5, o_al 0, o_getR 10 14, o_alen, o_ic 3 4, o_al 0, o_getR 10 14, o_il 5, o_aald, o_il 1, o_call 56, o_iinc 5 (J 1), o_goto 3] := rfl
theorem k185_4 : a_bl 185 4 = [o_al 0, o_getR 10 14, o_I (J 0), o_aald, o_getI 4 2, o_ret 1] := rfl
theorem k185_5 : a_bl 185 5 = [o_al 0, o_getR 10 14, o_I (J 0), o_aald, o_il 1, o_call 51, o_if 1 6, o_I (J (-4)), o_ret 1] := rfl
theorem k185_6 : a_bl 185 6 = [o_al 0, o_getR 10 14, o_I (J 0), o_aald, o_il 1, o_il 2, o_call 54, o_al 0, o_getR 10 14, o_I (J 1), o_aald, o_il 1, o_il 3, o_call 54, o_al 0, o_getR 10 14, o_I (J 2), o_aald, o_il 1, o_il 4, o_call 54, o_al 0, o_getR 10 14, o_I (J 0), o_aald, o_getI 4 2, o_ret 1] := rfl
theorem k185_r : a_rt 185 = (some .int) := rfl
theorem k185_s {E : AEn} {hi : AHi} {hr : AHr} {n : Nat} {Q : ARs → Prop} (x0 : Nat) (x1 : Int32) (x2 : Int32) (x3 : Int32) (x4 : Int32) : Sp E 185 [.ref x0, .int x1, .int x2, .int x3, .int x4] hi hr n Q ↔ Tm E 185 (a_bl 185 0) [.ref x0, .int x1, .int x2, .int x3, .int x4, a_mk] [] hi hr n Q := Iff.rfl
theorem K185 : (type_of% k185_0) ∧ (type_of% k185_1) ∧ (type_of% k185_2) ∧ (type_of% k185_4) ∧ (type_of% k185_5) ∧ (type_of% k185_6) ∧ (type_of% k185_r) ∧ (type_of% @k185_s) := ⟨k185_0, k185_1, k185_2, k185_4, k185_5, k185_6, k185_r, @k185_s⟩
theorem c185 {m : Nat} {is : List AOp} {ls st : List Value} {E : AEn} {hi : AHi} {hr : AHr} {n : Nat} {Q : ARs → Prop} (x0 : Nat) (x1 : Int32) (x2 : Int32) (x3 : Int32) (x4 : Int32) : Tm E m (o_call 185 :: is) ls (.int x4 :: .int x3 :: .int x2 :: .int x1 :: .ref x0 :: st) hi hr n Q ↔ (a_kd x0 = 10 ∧ x0 < n ∧ st.length ≤ 4) ∧ Sp E 185 [.ref x0, .int x1, .int x2, .int x3, .int x4] hi hr n (fun r => Tm E m is ls (r.1.toList ++ st) r.2.1 r.2.2.1 r.2.2.2 Q) := T_cI [.int x1, .int x2, .int x3, .int x4] rfl rfl rfl rfl
/-! CartoonHouse.depth(II)I -/
theorem k186_0 : a_bl 186 0 = [o_il 1, o_call 158, o_if 0 1, o_il 2, o_I (J 16), o_I (J 1024), o_call 138, o_if 1 2, o_ft 1] := rfl
theorem k186_1 : a_bl 186 1 = [o_I (J (-1)), o_ret 1] := rfl
theorem k186_2 : a_bl 186 2 = [o_al 0, o_getR 10 6, o_il 1, o_aald, o_getI 5 4, o_is 3, o_al 0, o_getR 10 6, o_il 1, o_aald, o_il 2, o_putI 5 4, o_il 3, o_ret 1] := rfl
theorem k186_r : a_rt 186 = (some .int) := rfl
theorem k186_s {E : AEn} {hi : AHi} {hr : AHr} {n : Nat} {Q : ARs → Prop} (x0 : Nat) (x1 : Int32) (x2 : Int32) : Sp E 186 [.ref x0, .int x1, .int x2] hi hr n Q ↔ Tm E 186 (a_bl 186 0) [.ref x0, .int x1, .int x2, a_mk] [] hi hr n Q := Iff.rfl
theorem K186 : (type_of% k186_0) ∧ (type_of% k186_1) ∧ (type_of% k186_2) ∧ (type_of% k186_r) ∧ (type_of% @k186_s) := ⟨k186_0, k186_1, k186_2, k186_r, @k186_s⟩
theorem c186 {m : Nat} {is : List AOp} {ls st : List Value} {E : AEn} {hi : AHi} {hr : AHr} {n : Nat} {Q : ARs → Prop} (x0 : Nat) (x1 : Int32) (x2 : Int32) : Tm E m (o_call 186 :: is) ls (.int x2 :: .int x1 :: .ref x0 :: st) hi hr n Q ↔ (a_kd x0 = 10 ∧ x0 < n ∧ st.length ≤ 4) ∧ Sp E 186 [.ref x0, .int x1, .int x2] hi hr n (fun r => Tm E m is ls (r.1.toList ++ st) r.2.1 r.2.2.1 r.2.2.2 Q) := T_cI [.int x1, .int x2] rfl rfl rfl rfl
/-! CartoonHouse.seen(IIIII)I -/
theorem k187_0 : a_bl 187 0 = [o_il 1, o_call 158, o_if 0 1, o_il 2, o_il 3, o_call 171, o_if 0 1, o_il 4, o_call 173, o_if 0 1, o_il 5, o_I (J 0), o_I (J 1), o_call 138, o_if 1 2, o_ft 1] := rfl
theorem k187_1 : a_bl 187 1 = [o_I (J (-1000000)), o_ret 1] := rfl
theorem k187_2 : a_bl 187 2 = [o_al 0, o_getR 10 6, o_il 1, o_aald, o_getI 5 4, o_un 1, o_lst 6, o_il 5, o_if 1 3, o_I (J 24), o_goto 4] := rfl
theorem k187_3 : a_bl 187 3 = [o_I (J 16), o_ft 4] := rfl
theorem k187_4 : a_bl 187 4 = [o_is 8, o_il 5, o_if 1 5, o_il 2, o_goto 6] := rfl
theorem k187_5 : a_bl 187 5 = [o_il 3, o_ft 6] := rfl
theorem k187_6 : a_bl 187 6 = [o_il 8, o_bin 1, o_un 1, o_lst 9, o_il 8, o_ll 9, o_ll 6, o_binL 2, o_L (L 64), o_al 0, o_il 5, o_il 4, o_call 188, o_binL 2, o_binL 1, o_al 0, o_il 4, o_call 189, o_binL 2, o_L (L 64), o_ll 6, o_binL 2, o_call 146, o_bin 0, o_ret 1] := rfl
theorem k187_r : a_rt 187 = (some .int) := rfl
theorem k187_s {E : AEn} {hi : AHi} {hr : AHr} {n : Nat} {Q : ARs → Prop} (x0 : Nat) (x1 : Int32) (x2 : Int32) (x3 : Int32) (x4 : Int32) (x5 : Int32) : Sp E 187 [.ref x0, .int x1, .int x2, .int x3, .int x4, .int x5] hi hr n Q ↔ Tm E 187 (a_bl 187 0) [.ref x0, .int x1, .int x2, .int x3, .int x4, .int x5, a_mk, a_mk, a_mk, a_mk, a_mk] [] hi hr n Q := Iff.rfl
theorem K187 : (type_of% k187_0) ∧ (type_of% k187_1) ∧ (type_of% k187_2) ∧ (type_of% k187_3) ∧ (type_of% k187_4) ∧ (type_of% k187_5) ∧ (type_of% k187_6) ∧ (type_of% k187_r) ∧ (type_of% @k187_s) := ⟨k187_0, k187_1, k187_2, k187_3, k187_4, k187_5, k187_6, k187_r, @k187_s⟩
theorem c187 {m : Nat} {is : List AOp} {ls st : List Value} {E : AEn} {hi : AHi} {hr : AHr} {n : Nat} {Q : ARs → Prop} (x0 : Nat) (x1 : Int32) (x2 : Int32) (x3 : Int32) (x4 : Int32) (x5 : Int32) : Tm E m (o_call 187 :: is) ls (.int x5 :: .int x4 :: .int x3 :: .int x2 :: .int x1 :: .ref x0 :: st) hi hr n Q ↔ (a_kd x0 = 10 ∧ x0 < n ∧ st.length ≤ 4) ∧ Sp E 187 [.ref x0, .int x1, .int x2, .int x3, .int x4, .int x5] hi hr n (fun r => Tm E m is ls (r.1.toList ++ st) r.2.1 r.2.2.1 r.2.2.2 Q) := T_cI [.int x1, .int x2, .int x3, .int x4, .int x5] rfl rfl rfl rfl
/-! CartoonHouse.cameraAt(II)J -/
theorem k188_0 : a_bl 188 0 = [o_al 0, o_getR 10 14, o_il 1, o_aald, o_il 2, o_I (J 0), o_call 55, o_un 1, o_ret 2] := rfl
theorem k188_r : a_rt 188 = (some .long) := rfl
theorem k188_s {E : AEn} {hi : AHi} {hr : AHr} {n : Nat} {Q : ARs → Prop} (x0 : Nat) (x1 : Int32) (x2 : Int32) : Sp E 188 [.ref x0, .int x1, .int x2] hi hr n Q ↔ Tm E 188 (a_bl 188 0) [.ref x0, .int x1, .int x2] [] hi hr n Q := Iff.rfl
theorem K188 : (type_of% k188_0) ∧ (type_of% k188_r) ∧ (type_of% @k188_s) := ⟨k188_0, k188_r, @k188_s⟩
theorem c188 {m : Nat} {is : List AOp} {ls st : List Value} {E : AEn} {hi : AHi} {hr : AHr} {n : Nat} {Q : ARs → Prop} (x0 : Nat) (x1 : Int32) (x2 : Int32) : Tm E m (o_call 188 :: is) ls (.int x2 :: .int x1 :: .ref x0 :: st) hi hr n Q ↔ (a_kd x0 = 10 ∧ x0 < n ∧ st.length ≤ 4) ∧ Sp E 188 [.ref x0, .int x1, .int x2] hi hr n (fun r => Tm E m is ls (r.1.toList ++ st) r.2.1 r.2.2.1 r.2.2.2 Q) := T_cI [.int x1, .int x2] rfl rfl rfl rfl
/-! CartoonHouse.zoomAt(I)J -/
theorem k189_0 : a_bl 189 0 = [o_al 0, o_getR 10 14, o_I (J 2), o_aald, o_il 1, o_I (J 64), o_call 55, o_un 1, o_ret 2] := rfl
theorem k189_r : a_rt 189 = (some .long) := rfl
theorem k189_s {E : AEn} {hi : AHi} {hr : AHr} {n : Nat} {Q : ARs → Prop} (x0 : Nat) (x1 : Int32) : Sp E 189 [.ref x0, .int x1] hi hr n Q ↔ Tm E 189 (a_bl 189 0) [.ref x0, .int x1] [] hi hr n Q := Iff.rfl
theorem K189 : (type_of% k189_0) ∧ (type_of% k189_r) ∧ (type_of% @k189_s) := ⟨k189_0, k189_r, @k189_s⟩
theorem c189 {m : Nat} {is : List AOp} {ls st : List Value} {E : AEn} {hi : AHi} {hr : AHr} {n : Nat} {Q : ARs → Prop} (x0 : Nat) (x1 : Int32) : Tm E m (o_call 189 :: is) ls (.int x1 :: .ref x0 :: st) hi hr n Q ↔ (a_kd x0 = 10 ∧ x0 < n ∧ st.length ≤ 4) ∧ Sp E 189 [.ref x0, .int x1] hi hr n (fun r => Tm E m is ls (r.1.toList ++ st) r.2.1 r.2.2.1 r.2.2.2 Q) := T_cI [.int x1] rfl rfl rfl rfl
