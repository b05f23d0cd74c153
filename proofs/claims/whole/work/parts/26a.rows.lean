/-! Rows of the blocks, by program (wip/whole/gen/emit_rows.py) -/
/-! CartoonHouse$Bone.<init>()V -/
theorem k0_0 : a_bl 0 0 = [o_al 0, o_obj, o_al 0, o_new 4, o_dup, o_I (J 6), o_call 50, o_putR 0 3, o_al 0, o_I (J 32), o_newa 20, o_putR 0 4, o_al 0, o_I (J 32), o_newa 20, o_putR 0 5, o_ret 0] := rfl
theorem k0_r : a_rt 0 = none := rfl
theorem k0_s {E : AEn} {hi : AHi} {hr : AHr} {n : Nat} {Q : ARs → Prop} (x0 : Nat) : Sp E 0 [.ref x0] hi hr n Q ↔ Tm E 0 (a_bl 0 0) [.ref x0] [] hi hr n Q := Iff.rfl
theorem K0 : (type_of% k0_0) ∧ (type_of% k0_r) ∧ (type_of% @k0_s) := ⟨k0_0, k0_r, @k0_s⟩
theorem c0 {m : Nat} {is : List AOp} {ls st : List Value} {E : AEn} {hi : AHi} {hr : AHr} {n : Nat} {Q : ARs → Prop} (x0 : Nat) : Tm E m (o_call 0 :: is) ls (.ref x0 :: st) hi hr n Q ↔ (a_kd x0 = 0 ∧ x0 < n ∧ st.length ≤ 4) ∧ Sp E 0 [.ref x0] hi hr n (fun r => Tm E m is ls (r.1.toList ++ st) r.2.1 r.2.2.1 r.2.2.2 Q) := T_cI [] rfl rfl rfl rfl
/-! CartoonHouse$Bone.become(LCartoonHouse$Bone;III)V -/
theorem k1_0 : a_bl 1 0 = [o_al 0, o_al 1, o_putR 0 0, o_al 0, o_il 3, o_putI 0 1, o_al 0, o_il 4, o_putI 0 2, o_I (J 0), o_is 5, o_ft 1] := rfl
theorem k1_1 : a_bl 1 1 = [o_il 5, o_I (J 32), o_ic 3 2, o_al 0, o_getR 0 4, o_il 5, o_il 2, o_il 5, o_I (J 8), o_bin 0, o_call 169, o_bin 2, o_un 1, o_L (L 1024), o_call 146, o_iast, o_al 0, o_getR 0 5, o_il 5, o_il 2, o_il 5, o_call 169, o_bin 2, o_un 1, o_L (L 1024), o_call 146, o_iast, o_iinc 5 (J 1), o_goto 1] := rfl
theorem k1_2 : a_bl 1 2 = [o_ret 0] := rfl
theorem k1_r : a_rt 1 = none := rfl
theorem k1_s {E : AEn} {hi : AHi} {hr : AHr} {n : Nat} {Q : ARs → Prop} (x0 : Nat) (x1 : Nat) (x2 : Int32) (x3 : Int32) (x4 : Int32) : Sp E 1 [.ref x0, .ref x1, .int x2, .int x3, .int x4] hi hr n Q ↔ Tm E 1 (a_bl 1 0) [.ref x0, .ref x1, .int x2, .int x3, .int x4, a_mk] [] hi hr n Q := Iff.rfl
theorem K1 : (type_of% k1_0) ∧ (type_of% k1_2) ∧ (type_of% k1_r) ∧ (type_of% @k1_s) := ⟨k1_0, k1_2, k1_r, @k1_s⟩
theorem c1 {m : Nat} {is : List AOp} {ls st : List Value} {E : AEn} {hi : AHi} {hr : AHr} {n : Nat} {Q : ARs → Prop} (x0 : Nat) (x1 : Nat) (x2 : Int32) (x3 : Int32) (x4 : Int32) : Tm E m (o_call 1 :: is) ls (.int x4 :: .int x3 :: .int x2 :: .ref x1 :: .ref x0 :: st) hi hr n Q ↔ (a_kd x0 = 0 ∧ x0 < n ∧ st.length ≤ 4) ∧ Sp E 1 [.ref x0, .ref x1, .int x2, .int x3, .int x4] hi hr n (fun r => Tm E m is ls (r.1.toList ++ st) r.2.1 r.2.2.1 r.2.2.2 Q) := T_cI [.ref x1, .int x2, .int x3, .int x4] rfl rfl rfl rfl
/-! CartoonHouse$Bone.angleAt(I)I -/
theorem k2_0 : a_bl 2 0 = [o_al 0, o_getR 0 3, o_il 1, o_al 0, o_getI 0 1, o_call 55, o_ret 1] := rfl
theorem k2_r : a_rt 2 = (some .int) := rfl
theorem k2_s {E : AEn} {hi : AHi} {hr : AHr} {n : Nat} {Q : ARs → Prop} (x0 : Nat) (x1 : Int32) : Sp E 2 [.ref x0, .int x1] hi hr n Q ↔ Tm E 2 (a_bl 2 0) [.ref x0, .int x1] [] hi hr n Q := Iff.rfl
theorem K2 : (type_of% k2_0) ∧ (type_of% k2_r) ∧ (type_of% @k2_s) := ⟨k2_0, k2_r, @k2_s⟩
theorem c2 {m : Nat} {is : List AOp} {ls st : List Value} {E : AEn} {hi : AHi} {hr : AHr} {n : Nat} {Q : ARs → Prop} (x0 : Nat) (x1 : Int32) : Tm E m (o_call 2 :: is) ls (.int x1 :: .ref x0 :: st) hi hr n Q ↔ (a_kd x0 = 0 ∧ x0 < n ∧ st.length ≤ 4) ∧ Sp E 2 [.ref x0, .int x1] hi hr n (fun r => Tm E m is ls (r.1.toList ++ st) r.2.1 r.2.2.1 r.2.2.2 Q) := T_cI [.int x1] rfl rfl rfl rfl
/-! CartoonHouse$Bone.endAt(II)I -/
theorem k3_0 : a_bl 3 0 = [o_al 0, o_il 1, o_call 4, o_is 3, o_I (J 0), o_is 4, o_al 0, o_as 5, o_I (J 0), o_is 6, o_ft 1] := rfl
theorem k3_1 : a_bl 3 1 = [o_il 6, o_I (J 10), o_ic 4 5, o_il 4, o_il 2, o_if 1 2, o_al 5, o_getR 0 4, o_il 3, o_iald, o_goto 3] := rfl
theorem k3_2 : a_bl 3 2 = [o_al 5, o_getR 0 5, o_il 3, o_iald, o_ft 3] := rfl
theorem k3_3 : a_bl 3 3 = [o_bin 0, o_is 4, o_il 3, o_al 5, o_il 1, o_call 2, o_bin 1, o_I (J 31), o_bin 3, o_is 3, o_al 5, o_getR 0 0, o_nn 4, o_goto 5] := rfl
theorem k3_4 : a_bl 3 4 = [o_al 5, o_getR 0 0, o_as 5, o_iinc 6 (J 1), o_goto 1] := rfl
theorem k3_5 : a_bl 3 5 = [o_il 4, o_ret 1] := rfl
theorem k3_r : a_rt 3 = (some .int) := rfl
theorem k3_s {E : AEn} {hi : AHi} {hr : AHr} {n : Nat} {Q : ARs → Prop} (x0 : Nat) (x1 : Int32) (x2 : Int32) : Sp E 3 [.ref x0, .int x1, .int x2] hi hr n Q ↔ Tm E 3 (a_bl 3 0) [.ref x0, .int x1, .int x2, a_mk, a_mk, a_mk, a_mk] [] hi hr n Q := Iff.rfl
theorem K3 : (type_of% k3_0) ∧ (type_of% k3_2) ∧ (type_of% k3_3) ∧ (type_of% k3_4) ∧ (type_of% k3_5) ∧ (type_of% k3_r) ∧ (type_of% @k3_s) := ⟨k3_0, k3_2, k3_3, k3_4, k3_5, k3_r, @k3_s⟩
theorem c3 {m : Nat} {is : List AOp} {ls st : List Value} {E : AEn} {hi : AHi} {hr : AHr} {n : Nat} {Q : ARs → Prop} (x0 : Nat) (x1 : Int32) (x2 : Int32) : Tm E m (o_call 3 :: is) ls (.int x2 :: .int x1 :: .ref x0 :: st) hi hr n Q ↔ (a_kd x0 = 0 ∧ x0 < n ∧ st.length ≤ 4) ∧ Sp E 3 [.ref x0, .int x1, .int x2] hi hr n (fun r => Tm E m is ls (r.1.toList ++ st) r.2.1 r.2.2.1 r.2.2.2 Q) := T_cI [.int x1, .int x2] rfl rfl rfl rfl
/-! CartoonHouse$Bone.directionAt(I)I -/
theorem k4_0 : a_bl 4 0 = [o_I (J 0), o_is 2, o_al 0, o_as 3, o_I (J 0), o_is 4, o_ft 1] := rfl
theorem k4_1 : a_bl 4 1 = [o_il 4, o_I (J 10), o_ic 4 3, o_il 2, o_al 3, o_il 1, o_call 2, o_bin 0, o_is 2, o_al 3, o_getR 0 0, o_nn 2, o_goto 3] := rfl
theorem k4_2 : a_bl 4 2 = [o_al 3, o_getR 0 0, o_as 3, o_iinc 4 (J 1), o_goto 1] := rfl
theorem k4_3 : a_bl 4 3 = [o_il 2, o_I (J 31), o_bin 3, o_ret 1] := rfl
theorem k4_r : a_rt 4 = (some .int) := rfl
theorem k4_s {E : AEn} {hi : AHi} {hr : AHr} {n : Nat} {Q : ARs → Prop} (x0 : Nat) (x1 : Int32) : Sp E 4 [.ref x0, .int x1] hi hr n Q ↔ Tm E 4 (a_bl 4 0) [.ref x0, .int x1, a_mk, a_mk, a_mk] [] hi hr n Q := Iff.rfl
theorem K4 : (type_of% k4_0) ∧ (type_of% k4_2) ∧ (type_of% k4_3) ∧ (type_of% k4_r) ∧ (type_of% @k4_s) := ⟨k4_0, k4_2, k4_3, k4_r, @k4_s⟩
theorem c4 {m : Nat} {is : List AOp} {ls st : List Value} {E : AEn} {hi : AHi} {hr : AHr} {n : Nat} {Q : ARs → Prop} (x0 : Nat) (x1 : Int32) : Tm E m (o_call 4 :: is) ls (.int x1 :: .ref x0 :: st) hi hr n Q ↔ (a_kd x0 = 0 ∧ x0 < n ∧ st.length ≤ 4) ∧ Sp E 4 [.ref x0, .int x1] hi hr n (fun r => Tm E m is ls (r.1.toList ++ st) r.2.1 r.2.2.1 r.2.2.2 Q) := T_cI [.int x1] rfl rfl rfl rfl
/-! CartoonHouse$Bone.above()LCartoonHouse$Bone; -/
theorem k5_0 : a_bl 5 0 = [o_al 0, o_getR 0 0, o_nn 1, o_al 0, o_goto 2] := rfl
theorem k5_1 : a_bl 5 1 = [o_al 0, o_getR 0 0, o_ft 2] := rfl
theorem k5_2 : a_bl 5 2 = [o_ret 3] := rfl
theorem k5_r : a_rt 5 = (some (.object "CartoonHouse$Bone")) := rfl
theorem k5_s {E : AEn} {hi : AHi} {hr : AHr} {n : Nat} {Q : ARs → Prop} (x0 : Nat) : Sp E 5 [.ref x0] hi hr n Q ↔ Tm E 5 (a_bl 5 0) [.ref x0] [] hi hr n Q := Iff.rfl
theorem K5 : (type_of% k5_0) ∧ (type_of% k5_1) ∧ (type_of% k5_2) ∧ (type_of% k5_r) ∧ (type_of% @k5_s) := ⟨k5_0, k5_1, k5_2, k5_r, @k5_s⟩
theorem c5 {m : Nat} {is : List AOp} {ls st : List Value} {E : AEn} {hi : AHi} {hr : AHr} {n : Nat} {Q : ARs → Prop} (x0 : Nat) : Tm E m (o_call 5 :: is) ls (.ref x0 :: st) hi hr n Q ↔ (a_kd x0 = 0 ∧ x0 < n ∧ st.length ≤ 4) ∧ Sp E 5 [.ref x0] hi hr n (fun r => Tm E m is ls (r.1.toList ++ st) r.2.1 r.2.2.1 r.2.2.2 Q) := T_cI [] rfl rfl rfl rfl
/-! CartoonHouse$Bone.nearestAngles(III)I -/
theorem k6_0 : a_bl 6 0 = [o_al 0, o_call 5, o_as 4, o_al 4, o_call 5, o_as 5, o_al 5, o_call 5, o_as 6, o_al 6, o_il 1, o_call 4, o_is 7, o_il 2, o_al 6, o_il 1, o_I (J 0), o_call 3, o_bin 1, o_is 8, o_il 3, o_al 6, o_il 1, o_I (J 1), o_call 3, o_bin 1, o_is 9, o_I (J 1000000000), o_is 10, o_I (J 0), o_is 11, o_al 5, o_getI 0 1, o_is 12, o_ft 1] := rfl
theorem k6_1 : a_bl 6 1 = [o_il 12, o_al 5, o_getI 0 2, o_ic 4 7, o_il 7, o_il 12, o_bin 0, o_I (J 31), o_bin 3, o_is 13, o_al 4, o_getI 0 1, o_is 14, o_ft 2] := rfl
theorem k6_2 : a_bl 6 2 = [o_il 14, o_al 4, o_getI 0 2, o_ic 4 6, o_il 13, o_il 14, o_bin 0, o_I (J 31), o_bin 3, o_is 15, o_il 8, o_al 5, o_getR 0 4, o_il 13, o_iald, o_bin 1, o_al 4, o_getR 0 4, o_il 15, o_iald, o_bin 1, o_is 16, o_il 9, o_al 5, o_getR 0 5, o_il 13, o_iald, o_bin 1, o_al 4, o_getR 0 5, o_il 15, o_iald, o_bin 1, o_is 17, o_al 0, o_getI 0 1, o_is 18, o_ft 3] := rfl
theorem k6_3 : a_bl 6 3 = [o_il 18, o_al 0, o_getI 0 2, o_ic 4 5, o_il 15, o_il 18, o_bin 0, o_I (J 31), o_bin 3, o_is 19, o_il 16, o_al 0, o_getR 0 4, o_il 19, o_iald, o_bin 1, o_is 20, o_il 17, o_al 0, o_getR 0 5, o_il 19, o_iald, o_bin 1, o_is 21, o_il 20, o_il 20, o_bin 2, o_il 21, o_il 21, o_bin 2, o_bin 0, o_il 10, o_ic 3 4, o_il 20, o_il 20, o_bin 2, o_il 21, o_il 21, o_bin 2, o_bin 0, o_is 10, o_il 12, o_I (J 32), o_bin 2, o_il 14, o_bin 0, o_I (J 32), o_bin 2, o_il 18, o_bin 0, o_is 11, o_ft 4] := rfl
theorem k6_4 : a_bl 6 4 = [o_iinc 18 (J 1), o_goto 3] := rfl
theorem k6_5 : a_bl 6 5 = [o_iinc 14 (J 1), o_goto 2] := rfl
theorem k6_6 : a_bl 6 6 = [o_iinc 12 (J 1), o_goto 1] := rfl
theorem k6_7 : a_bl 6 7 = [o_il 11, o_ret 1] := rfl
theorem k6_r : a_rt 6 = (some .int) := rfl
theorem k6_s {E : AEn} {hi : AHi} {hr : AHr} {n : Nat} {Q : ARs → Prop} (x0 : Nat) (x1 : Int32) (x2 : Int32) (x3 : Int32) : Sp E 6 [.ref x0, .int x1, .int x2, .int x3] hi hr n Q ↔ Tm E 6 (a_bl 6 0) [.ref x0, .int x1, .int x2, .int x3, a_mk, a_mk, a_mk, a_mk, a_mk, a_mk, a_mk, a_mk, a_mk, a_mk, a_mk, a_mk, a_mk, a_mk, a_mk, a_mk, a_mk, a_mk] [] hi hr n Q := Iff.rfl
theorem K6 : (type_of% k6_0) ∧ (type_of% k6_4) ∧ (type_of% k6_5) ∧ (type_of% k6_6) ∧ (type_of% k6_7) ∧ (type_of% k6_r) ∧ (type_of% @k6_s) := ⟨k6_0, k6_4, k6_5, k6_6, k6_7, k6_r, @k6_s⟩
theorem c6 {m : Nat} {is : List AOp} {ls st : List Value} {E : AEn} {hi : AHi} {hr : AHr} {n : Nat} {Q : ARs → Prop} (x0 : Nat) (x1 : Int32) (x2 : Int32) (x3 : Int32) : Tm E m (o_call 6 :: is) ls (.int x3 :: .int x2 :: .int x1 :: .ref x0 :: st) hi hr n Q ↔ (a_kd x0 = 0 ∧ x0 < n ∧ st.length ≤ 4) ∧ Sp E 6 [.ref x0, .int x1, .int x2, .int x3] hi hr n (fun r => Tm E m is ls (r.1.toList ++ st) r.2.1 r.2.2.1 r.2.2.2 Q) := T_cI [.int x1, .int x2, .int x3] rfl rfl rfl rfl
/-! CartoonHouse$Bone.springAt(III)I -/
theorem k7_0 : a_bl 7 0 = [o_I (J 256), o_al 0, o_I (J 0), o_call 2, o_bin 2, o_is 4, o_I (J 0), o_is 5, o_I (J 1), o_is 6, o_ft 1] := rfl
theorem k7_1 : a_bl 7 1 = [o_il 6, o_il 1, o_ic 4 2, o_I (J 256), o_al 0, o_il 6, o_call 2, o_bin 2, o_il 4, o_bin 1, o_il 2, o_bin 2, o_I (J 16), o_call 350, o_is 7, o_il 5, o_il 7, o_bin 0, o_il 5, o_il 3, o_bin 2, o_I (J 16), o_call 350, o_bin 1, o_is 5, o_il 4, o_il 5, o_bin 0, o_is 4, o_iinc 6 (J 1), o_goto 1] := rfl
theorem k7_2 : a_bl 7 2 = [o_il 4, o_ret 1] := rfl
theorem k7_r : a_rt 7 = (some .int) := rfl
theorem k7_s {E : AEn} {hi : AHi} {hr : AHr} {n : Nat} {Q : ARs → Prop} (x0 : Nat) (x1 : Int32) (x2 : Int32) (x3 : Int32) : Sp E 7 [.ref x0, .int x1, .int x2, .int x3] hi hr n Q ↔ Tm E 7 (a_bl 7 0) [.ref x0, .int x1, .int x2, .int x3, a_mk, a_mk, a_mk, a_mk] [] hi hr n Q := Iff.rfl
theorem K7 : (type_of% k7_0) ∧ (type_of% k7_2) ∧ (type_of% k7_r) ∧ (type_of% @k7_s) := ⟨k7_0, k7_2, k7_r, @k7_s⟩
theorem c7 {m : Nat} {is : List AOp} {ls st : List Value} {E : AEn} {hi : AHi} {hr : AHr} {n : Nat} {Q : ARs → Prop} (x0 : Nat) (x1 : Int32) (x2 : Int32) (x3 : Int32) : Tm E m (o_call 7 :: is) ls (.int x3 :: .int x2 :: .int x1 :: .ref x0 :: st) hi hr n Q ↔ (a_kd x0 = 0 ∧ x0 < n ∧ st.length ≤ 4) ∧ Sp E 7 [.ref x0, .int x1, .int x2, .int x3] hi hr n (fun r => Tm E m is ls (r.1.toList ++ st) r.2.1 r.2.2.1 r.2.2.2 Q) := T_cI [.int x1, .int x2, .int x3] rfl rfl rfl rfl
/-! CartoonHouse$Bytes.<init>(I)V -/
theorem k8_0 : a_bl 8 0 = [o_al 0, o_obj, o_al 0, o_il 1, o_newa 21, o_putR 1 0, o_ret 0] := rfl
theorem k8_r : a_rt 8 = none := rfl
theorem k8_s {E : AEn} {hi : AHi} {hr : AHr} {n : Nat} {Q : ARs → Prop} (x0 : Nat) (x1 : Int32) : Sp E 8 [.ref x0, .int x1] hi hr n Q ↔ Tm E 8 (a_bl 8 0) [.ref x0, .int x1] [] hi hr n Q := Iff.rfl
theorem K8 : (type_of% k8_0) ∧ (type_of% k8_r) ∧ (type_of% @k8_s) := ⟨k8_0, k8_r, @k8_s⟩
theorem c8 {m : Nat} {is : List AOp} {ls st : List Value} {E : AEn} {hi : AHi} {hr : AHr} {n : Nat} {Q : ARs → Prop} (x0 : Nat) (x1 : Int32) : Tm E m (o_call 8 :: is) ls (.int x1 :: .ref x0 :: st) hi hr n Q ↔ (a_kd x0 = 1 ∧ x0 < n ∧ st.length ≤ 4) ∧ Sp E 8 [.ref x0, .int x1] hi hr n (fun r => Tm E m is ls (r.1.toList ++ st) r.2.1 r.2.2.1 r.2.2.2 Q) := T_cI [.int x1] rfl rfl rfl rfl
/-! CartoonHouse$Bytes.hasRoomFor(I)Z -/
theorem k9_0 : a_bl 9 0 = [o_al 0, o_getI 1 1, o_il 1, o_bin 0, o_al 0, o_getR 1 0, o_alen, o_ic 4 1, o_I (J 1), o_goto 2] := rfl
theorem k9_1 : a_bl 9 1 = [o_I (J 0), o_ft 2] := rfl
theorem k9_2 : a_bl 9 2 = [o_ret 1] := rfl
theorem k9_r : a_rt 9 = (some .boolean) := rfl
theorem k9_s {E : AEn} {hi : AHi} {hr : AHr} {n : Nat} {Q : ARs → Prop} (x0 : Nat) (x1 : Int32) : Sp E 9 [.ref x0, .int x1] hi hr n Q ↔ Tm E 9 (a_bl 9 0) [.ref x0, .int x1] [] hi hr n Q := Iff.rfl
theorem K9 : (type_of% k9_0) ∧ (type_of% k9_1) ∧ (type_of% k9_2) ∧ (type_of% k9_r) ∧ (type_of% @k9_s) := ⟨k9_0, k9_1, k9_2, k9_r, @k9_s⟩
theorem c9 {m : Nat} {is : List AOp} {ls st : List Value} {E : AEn} {hi : AHi} {hr : AHr} {n : Nat} {Q : ARs → Prop} (x0 : Nat) (x1 : Int32) : Tm E m (o_call 9 :: is) ls (.int x1 :: .ref x0 :: st) hi hr n Q ↔ (a_kd x0 = 1 ∧ x0 < n ∧ st.length ≤ 4) ∧ Sp E 9 [.ref x0, .int x1] hi hr n (fun r => Tm E m is ls (r.1.toList ++ st) r.2.1 r.2.2.1 r.2.2.2 Q) := T_cI [.int x1] rfl rfl rfl rfl
/-! CartoonHouse$Bytes.putInt(I)V -/
theorem k10_0 : a_bl 10 0 = [o_al 0, o_il 1, o_I (J 24), o_bin 8, o_call 11, o_al 0, o_il 1, o_I (J 16), o_bin 8, o_call 11, o_al 0, o_il 1, o_I (J 8), o_bin 8, o_call 11, o_al 0, o_il 1, o_call 11, o_ret 0] := rfl
theorem k10_r : a_rt 10 = none := rfl
theorem k10_s {E : AEn} {hi : AHi} {hr : AHr} {n : Nat} {Q : ARs → Prop} (x0 : Nat) (x1 : Int32) : Sp E 10 [.ref x0, .int x1] hi hr n Q ↔ Tm E 10 (a_bl 10 0) [.ref x0, .int x1] [] hi hr n Q := Iff.rfl
theorem K10 : (type_of% k10_0) ∧ (type_of% k10_r) ∧ (type_of% @k10_s) := ⟨k10_0, k10_r, @k10_s⟩
theorem c10 {m : Nat} {is : List AOp} {ls st : List Value} {E : AEn} {hi : AHi} {hr : AHr} {n : Nat} {Q : ARs → Prop} (x0 : Nat) (x1 : Int32) : Tm E m (o_call 10 :: is) ls (.int x1 :: .ref x0 :: st) hi hr n Q ↔ (a_kd x0 = 1 ∧ x0 < n ∧ st.length ≤ 4) ∧ Sp E 10 [.ref x0, .int x1] hi hr n (fun r => Tm E m is ls (r.1.toList ++ st) r.2.1 r.2.2.1 r.2.2.2 Q) := T_cI [.int x1] rfl rfl rfl rfl
/-! CartoonHouse$Bytes.put(I)V -/
theorem k11_0 : a_bl 11 0 = [o_al 0, o_getI 1 1, o_al 0, o_getR 1 0, o_alen, o_ic 3 1, o_al 0, o_getR 1 0, o_al 0, o_getI 1 1, o_il 1, o_un 3, o_bast, o_al 0, o_dup, o_getI 1 1, o_I (J 1), o_bin 0, o_putI 1 1, o_ft 1] := rfl
theorem k11_1 : a_bl 11 1 = [o_ret 0] := rfl
theorem k11_r : a_rt 11 = none := rfl
theorem k11_s {E : AEn} {hi : AHi} {hr : AHr} {n : Nat} {Q : ARs → Prop} (x0 : Nat) (x1 : Int32) : Sp E 11 [.ref x0, .int x1] hi hr n Q ↔ Tm E 11 (a_bl 11 0) [.ref x0, .int x1] [] hi hr n Q := Iff.rfl
theorem K11 : (type_of% k11_0) ∧ (type_of% k11_1) ∧ (type_of% k11_r) ∧ (type_of% @k11_s) := ⟨k11_0, k11_1, k11_r, @k11_s⟩
theorem c11 {m : Nat} {is : List AOp} {ls st : List Value} {E : AEn} {hi : AHi} {hr : AHr} {n : Nat} {Q : ARs → Prop} (x0 : Nat) (x1 : Int32) : Tm E m (o_call 11 :: is) ls (.int x1 :: .ref x0 :: st) hi hr n Q ↔ (a_kd x0 = 1 ∧ x0 < n ∧ st.length ≤ 4) ∧ Sp E 11 [.ref x0, .int x1] hi hr n (fun r => Tm E m is ls (r.1.toList ++ st) r.2.1 r.2.2.1 r.2.2.2 Q) := T_cI [.int x1] rfl rfl rfl rfl
/-! CartoonHouse$Bytes.byteAt(I)I -/
theorem k12_0 : a_bl 12 0 = [o_il 1, o_if 2 1, o_il 1, o_al 0, o_getI 1 1, o_ic 3 1, o_al 0, o_getR 1 0, o_il 1, o_bald, o_I (J 255), o_bin 3, o_goto 2] := rfl
theorem k12_1 : a_bl 12 1 = [o_I (J (-1)), o_ft 2] := rfl
theorem k12_2 : a_bl 12 2 = [o_ret 1] := rfl
theorem k12_r : a_rt 12 = (some .int) := rfl
theorem k12_s {E : AEn} {hi : AHi} {hr : AHr} {n : Nat} {Q : ARs → Prop} (x0 : Nat) (x1 : Int32) : Sp E 12 [.ref x0, .int x1] hi hr n Q ↔ Tm E 12 (a_bl 12 0) [.ref x0, .int x1] [] hi hr n Q := Iff.rfl
theorem K12 : (type_of% k12_0) ∧ (type_of% k12_1) ∧ (type_of% k12_2) ∧ (type_of% k12_r) ∧ (type_of% @k12_s) := ⟨k12_0, k12_1, k12_2, k12_r, @k12_s⟩
theorem c12 {m : Nat} {is : List AOp} {ls st : List Value} {E : AEn} {hi : AHi} {hr : AHr} {n : Nat} {Q : ARs → Prop} (x0 : Nat) (x1 : Int32) : Tm E m (o_call 12 :: is) ls (.int x1 :: .ref x0 :: st) hi hr n Q ↔ (a_kd x0 = 1 ∧ x0 < n ∧ st.length ≤ 4) ∧ Sp E 12 [.ref x0, .int x1] hi hr n (fun r => Tm E m is ls (r.1.toList ++ st) r.2.1 r.2.2.1 r.2.2.2 Q) := T_cI [.int x1] rfl rfl rfl rfl
/-! CartoonHouse$Bytes.startReading()V -/
theorem k13_0 : a_bl 13 0 = [o_al 0, o_I (J 0), o_putI 1 2, o_al 0, o_I (J (-1)), o_putI 1 3, o_ret 0] := rfl
theorem k13_r : a_rt 13 = none := rfl
theorem k13_s {E : AEn} {hi : AHi} {hr : AHr} {n : Nat} {Q : ARs → Prop} (x0 : Nat) : Sp E 13 [.ref x0] hi hr n Q ↔ Tm E 13 (a_bl 13 0) [.ref x0] [] hi hr n Q := Iff.rfl
theorem K13 : (type_of% k13_0) ∧ (type_of% k13_r) ∧ (type_of% @k13_s) := ⟨k13_0, k13_r, @k13_s⟩
theorem c13 {m : Nat} {is : List AOp} {ls st : List Value} {E : AEn} {hi : AHi} {hr : AHr} {n : Nat} {Q : ARs → Prop} (x0 : Nat) : Tm E m (o_call 13 :: is) ls (.ref x0 :: st) hi hr n Q ↔ (a_kd x0 = 1 ∧ x0 < n ∧ st.length ≤ 4) ∧ Sp E 13 [.ref x0] hi hr n (fun r => Tm E m is ls (r.1.toList ++ st) r.2.1 r.2.2.1 r.2.2.2 Q) := T_cI [] rfl rfl rfl rfl
/-! CartoonHouse$Bytes.readNumber(II)I -/
theorem k14_0 : a_bl 14 0 = [o_al 0, o_getI 1 2, o_is 3, o_al 0, o_call 15, o_is 4, o_il 4, o_il 1, o_ic 2 1, o_il 4, o_il 2, o_ic 5 2, o_ft 1] := rfl
theorem k14_1 : a_bl 14 1 = [o_al 0, o_il 3, o_call 18, o_ft 2] := rfl
theorem k14_2 : a_bl 14 2 = [o_il 4, o_ret 1] := rfl
theorem k14_r : a_rt 14 = (some .int) := rfl
theorem k14_s {E : AEn} {hi : AHi} {hr : AHr} {n : Nat} {Q : ARs → Prop} (x0 : Nat) (x1 : Int32) (x2 : Int32) : Sp E 14 [.ref x0, .int x1, .int x2] hi hr n Q ↔ Tm E 14 (a_bl 14 0) [.ref x0, .int x1, .int x2, a_mk, a_mk] [] hi hr n Q := Iff.rfl
theorem K14 : (type_of% k14_0) ∧ (type_of% k14_1) ∧ (type_of% k14_2) ∧ (type_of% k14_r) ∧ (type_of% @k14_s) := ⟨k14_0, k14_1, k14_2, k14_r, @k14_s⟩
theorem c14 {m : Nat} {is : List AOp} {ls st : List Value} {E : AEn} {hi : AHi} {hr : AHr} {n : Nat} {Q : ARs → Prop} (x0 : Nat) (x1 : Int32) (x2 : Int32) : Tm E m (o_call 14 :: is) ls (.int x2 :: .int x1 :: .ref x0 :: st) hi hr n Q ↔ (a_kd x0 = 1 ∧ x0 < n ∧ st.length ≤ 4) ∧ Sp E 14 [.ref x0, .int x1, .int x2] hi hr n (fun r => Tm E m is ls (r.1.toList ++ st) r.2.1 r.2.2.1 r.2.2.2 Q) := T_cI [.int x1, .int x2] rfl rfl rfl rfl
/-! CartoonHouse$Bytes.readDigits()I -/
theorem k15_0 : a_bl 15 0 = [o_I (J 0), o_is 1, o_I (J 0), o_is 2, o_I (J 0), o_is 3, o_ft 1] := rfl
theorem k15_1 : a_bl 15 1 = [o_il 3, o_I (J 10), o_ic 3 5, o_al 0, o_call 16, o_if 0 5, o_al 0, o_I (J 48), o_I (J 57), o_call 17, o_if 0 5, o_il 2, o_I (J 9), o_ic 0 2, o_il 2, o_I (J 1), o_ic 1 3, o_il 1, o_if 1 3, o_ft 2] := rfl
theorem k15_2 : a_bl 15 2 = [o_al 0, o_al 0, o_getI 1 2, o_call 18, o_goto 4] := rfl
theorem k15_3 : a_bl 15 3 = [o_il 1, o_I (J 10), o_bin 2, o_al 0, o_call 19, o_bin 0, o_I (J 48), o_bin 1, o_is 1, o_iinc 2 (J 1), o_al 0, o_dup, o_getI 1 2, o_I (J 1), o_bin 0, o_putI 1 2, o_ft 4] := rfl
theorem k15_4 : a_bl 15 4 = [o_iinc 3 (J 1), o_goto 1] := rfl
theorem k15_5 : a_bl 15 5 = [o_il 2, o_if 1 6, o_al 0, o_al 0, o_getI 1 2, o_call 18, o_ft 6] := rfl
theorem k15_6 : a_bl 15 6 = [o_il 1, o_ret 1] := rfl
theorem k15_r : a_rt 15 = (some .int) := rfl
theorem k15_s {E : AEn} {hi : AHi} {hr : AHr} {n : Nat} {Q : ARs → Prop} (x0 : Nat) : Sp E 15 [.ref x0] hi hr n Q ↔ Tm E 15 (a_bl 15 0) [.ref x0, a_mk, a_mk, a_mk] [] hi hr n Q := Iff.rfl
theorem K15 : (type_of% k15_0) ∧ (type_of% k15_2) ∧ (type_of% k15_3) ∧ (type_of% k15_4) ∧ (type_of% k15_5) ∧ (type_of% k15_6) ∧ (type_of% k15_r) ∧ (type_of% @k15_s) := ⟨k15_0, k15_2, k15_3, k15_4, k15_5, k15_6, k15_r, @k15_s⟩
theorem c15 {m : Nat} {is : List AOp} {ls st : List Value} {E : AEn} {hi : AHi} {hr : AHr} {n : Nat} {Q : ARs → Prop} (x0 : Nat) : Tm E m (o_call 15 :: is) ls (.ref x0 :: st) hi hr n Q ↔ (a_kd x0 = 1 ∧ x0 < n ∧ st.length ≤ 4) ∧ Sp E 15 [.ref x0] hi hr n (fun r => Tm E m is ls (r.1.toList ++ st) r.2.1 r.2.2.1 r.2.2.2 Q) := T_cI [] rfl rfl rfl rfl
/-! CartoonHouse$Bytes.isFine()Z -/
theorem k16_0 : a_bl 16 0 = [o_al 0, o_getI 1 3, o_I (J (-1)), o_ic 1 1, o_I (J 1), o_goto 2] := rfl
theorem k16_1 : a_bl 16 1 = [o_I (J 0), o_ft 2] := rfl
theorem k16_2 : a_bl 16 2 = [o_ret 1] := rfl
theorem k16_r : a_rt 16 = (some .boolean) := rfl
theorem k16_s {E : AEn} {hi : AHi} {hr : AHr} {n : Nat} {Q : ARs → Prop} (x0 : Nat) : Sp E 16 [.ref x0] hi hr n Q ↔ Tm E 16 (a_bl 16 0) [.ref x0] [] hi hr n Q := Iff.rfl
theorem K16 : (type_of% k16_0) ∧ (type_of% k16_1) ∧ (type_of% k16_2) ∧ (type_of% k16_r) ∧ (type_of% @k16_s) := ⟨k16_0, k16_1, k16_2, k16_r, @k16_s⟩
theorem c16 {m : Nat} {is : List AOp} {ls st : List Value} {E : AEn} {hi : AHi} {hr : AHr} {n : Nat} {Q : ARs → Prop} (x0 : Nat) : Tm E m (o_call 16 :: is) ls (.ref x0 :: st) hi hr n Q ↔ (a_kd x0 = 1 ∧ x0 < n ∧ st.length ≤ 4) ∧ Sp E 16 [.ref x0] hi hr n (fun r => Tm E m is ls (r.1.toList ++ st) r.2.1 r.2.2.1 r.2.2.2 Q) := T_cI [] rfl rfl rfl rfl
/-! CartoonHouse$Bytes.nextIsWithin(II)Z -/
theorem k17_0 : a_bl 17 0 = [o_al 0, o_al 0, o_getI 1 2, o_call 12, o_is 3, o_il 1, o_il 3, o_ic 4 1, o_il 3, o_il 2, o_ic 4 1, o_I (J 1), o_goto 2] := rfl
theorem k17_1 : a_bl 17 1 = [o_I (J 0), o_ft 2] := rfl
theorem k17_2 : a_bl 17 2 = [o_ret 1] := rfl
theorem k17_r : a_rt 17 = (some .boolean) := rfl
theorem k17_s {E : AEn} {hi : AHi} {hr : AHr} {n : Nat} {Q : ARs → Prop} (x0 : Nat) (x1 : Int32) (x2 : Int32) : Sp E 17 [.ref x0, .int x1, .int x2] hi hr n Q ↔ Tm E 17 (a_bl 17 0) [.ref x0, .int x1, .int x2, a_mk] [] hi hr n Q := Iff.rfl
theorem K17 : (type_of% k17_0) ∧ (type_of% k17_1) ∧ (type_of% k17_2) ∧ (type_of% k17_r) ∧ (type_of% @k17_s) := ⟨k17_0, k17_1, k17_2, k17_r, @k17_s⟩
theorem c17 {m : Nat} {is : List AOp} {ls st : List Value} {E : AEn} {hi : AHi} {hr : AHr} {n : Nat} {Q : ARs → Prop} (x0 : Nat) (x1 : Int32) (x2 : Int32) : Tm E m (o_call 17 :: is) ls (.int x2 :: .int x1 :: .ref x0 :: st) hi hr n Q ↔ (a_kd x0 = 1 ∧ x0 < n ∧ st.length ≤ 4) ∧ Sp E 17 [.ref x0, .int x1, .int x2] hi hr n (fun r => Tm E m is ls (r.1.toList ++ st) r.2.1 r.2.2.1 r.2.2.2 Q) := T_cI [.int x1, .int x2] rfl rfl rfl rfl
/-! CartoonHouse$Bytes.refuse(I)V -/
theorem k18_0 : a_bl 18 0 = [o_al 0, o_call 16, o_if 0 1, o_al 0, o_il 1, o_putI 1 3, o_ft 1] := rfl
theorem k18_1 : a_bl 18 1 = [o_ret 0] := rfl
theorem k18_r : a_rt 18 = none := rfl
theorem k18_s {E : AEn} {hi : AHi} {hr : AHr} {n : Nat} {Q : ARs → Prop} (x0 : Nat) (x1 : Int32) : Sp E 18 [.ref x0, .int x1] hi hr n Q ↔ Tm E 18 (a_bl 18 0) [.ref x0, .int x1] [] hi hr n Q := Iff.rfl
theorem K18 : (type_of% k18_0) ∧ (type_of% k18_1) ∧ (type_of% k18_r) ∧ (type_of% @k18_s) := ⟨k18_0, k18_1, k18_r, @k18_s⟩
theorem c18 {m : Nat} {is : List AOp} {ls st : List Value} {E : AEn} {hi : AHi} {hr : AHr} {n : Nat} {Q : ARs → Prop} (x0 : Nat) (x1 : Int32) : Tm E m (o_call 18 :: is) ls (.int x1 :: .ref x0 :: st) hi hr n Q ↔ (a_kd x0 = 1 ∧ x0 < n ∧ st.length ≤ 4) ∧ Sp E 18 [.ref x0, .int x1] hi hr n (fun r => Tm E m is ls (r.1.toList ++ st) r.2.1 r.2.2.1 r.2.2.2 Q) := T_cI [.int x1] rfl rfl rfl rfl
/-! CartoonHouse$Bytes.next()I -/
theorem k19_0 : a_bl 19 0 = [o_al 0, o_al 0, o_getI 1 2, o_call 12, o_ret 1] := rfl
theorem k19_r : a_rt 19 = (some .int) := rfl
theorem k19_s {E : AEn} {hi : AHi} {hr : AHr} {n : Nat} {Q : ARs → Prop} (x0 : Nat) : Sp E 19 [.ref x0] hi hr n Q ↔ Tm E 19 (a_bl 19 0) [.ref x0] [] hi hr n Q := Iff.rfl
theorem K19 : (type_of% k19_0) ∧ (type_of% k19_r) ∧ (type_of% @k19_s) := ⟨k19_0, k19_r, @k19_s⟩
theorem c19 {m : Nat} {is : List AOp} {ls st : List Value} {E : AEn} {hi : AHi} {hr : AHr} {n : Nat} {Q : ARs → Prop} (x0 : Nat) : Tm E m (o_call 19 :: is) ls (.ref x0 :: st) hi hr n Q ↔ (a_kd x0 = 1 ∧ x0 < n ∧ st.length ≤ 4) ∧ Sp E 19 [.ref x0] hi hr n (fun r => Tm E m is ls (r.1.toList ++ st) r.2.1 r.2.2.1 r.2.2.2 Q) := T_cI [] rfl rfl rfl rfl
/-! CartoonHouse$Bytes.goesOn()Z -/
theorem k20_0 : a_bl 20 0 = [o_al 0, o_call 21, o_if 1 1, o_I (J 0), o_ret 1] := rfl
theorem k20_1 : a_bl 20 1 = [o_al 0, o_I (J 32), o_call 22, o_al 0, o_call 16, o_ret 1] := rfl
theorem k20_r : a_rt 20 = (some .boolean) := rfl
theorem k20_s {E : AEn} {hi : AHi} {hr : AHr} {n : Nat} {Q : ARs → Prop} (x0 : Nat) : Sp E 20 [.ref x0] hi hr n Q ↔ Tm E 20 (a_bl 20 0) [.ref x0] [] hi hr n Q := Iff.rfl
theorem K20 : (type_of% k20_0) ∧ (type_of% k20_1) ∧ (type_of% k20_r) ∧ (type_of% @k20_s) := ⟨k20_0, k20_1, k20_r, @k20_s⟩
theorem c20 {m : Nat} {is : List AOp} {ls st : List Value} {E : AEn} {hi : AHi} {hr : AHr} {n : Nat} {Q : ARs → Prop} (x0 : Nat) : Tm E m (o_call 20 :: is) ls (.ref x0 :: st) hi hr n Q ↔ (a_kd x0 = 1 ∧ x0 < n ∧ st.length ≤ 4) ∧ Sp E 20 [.ref x0] hi hr n (fun r => Tm E m is ls (r.1.toList ++ st) r.2.1 r.2.2.1 r.2.2.2 Q) := T_cI [] rfl rfl rfl rfl
/-! CartoonHouse$Bytes.hasMore()Z -/
theorem k21_0 : a_bl 21 0 = [o_al 0, o_call 16, o_if 0 1, o_al 0, o_getI 1 2, o_al 0, o_getI 1 1, o_ic 3 1, o_I (J 1), o_goto 2] := rfl
theorem k21_1 : a_bl 21 1 = [o_I (J 0), o_ft 2] := rfl
theorem k21_2 : a_bl 21 2 = [o_ret 1] := rfl
theorem k21_r : a_rt 21 = (some .boolean) := rfl
theorem k21_s {E : AEn} {hi : AHi} {hr : AHr} {n : Nat} {Q : ARs → Prop} (x0 : Nat) : Sp E 21 [.ref x0] hi hr n Q ↔ Tm E 21 (a_bl 21 0) [.ref x0] [] hi hr n Q := Iff.rfl
theorem K21 : (type_of% k21_0) ∧ (type_of% k21_1) ∧ (type_of% k21_2) ∧ (type_of% k21_r) ∧ (type_of% @k21_s) := ⟨k21_0, k21_1, k21_2, k21_r, @k21_s⟩
theorem c21 {m : Nat} {is : List AOp} {ls st : List Value} {E : AEn} {hi : AHi} {hr : AHr} {n : Nat} {Q : ARs → Prop} (x0 : Nat) : Tm E m (o_call 21 :: is) ls (.ref x0 :: st) hi hr n Q ↔ (a_kd x0 = 1 ∧ x0 < n ∧ st.length ≤ 4) ∧ Sp E 21 [.ref x0] hi hr n (fun r => Tm E m is ls (r.1.toList ++ st) r.2.1 r.2.2.1 r.2.2.2 Q) := T_cI [] rfl rfl rfl rfl
/-! CartoonHouse$Bytes.expect(I)V -/
theorem k22_0 : a_bl 22 0 = [o_al 0, o_il 1, o_call 23, o_if 1 1, o_al 0, o_al 0, o_getI 1 2, o_call 18, o_ft 1] := rfl
theorem k22_1 : a_bl 22 1 = [o_ret 0] := rfl
theorem k22_r : a_rt 22 = none := rfl
theorem k22_s {E : AEn} {hi : AHi} {hr : AHr} {n : Nat} {Q : ARs → Prop} (x0 : Nat) (x1 : Int32) : Sp E 22 [.ref x0, .int x1] hi hr n Q ↔ Tm E 22 (a_bl 22 0) [.ref x0, .int x1] [] hi hr n Q := Iff.rfl
theorem K22 : (type_of% k22_0) ∧ (type_of% k22_1) ∧ (type_of% k22_r) ∧ (type_of% @k22_s) := ⟨k22_0, k22_1, k22_r, @k22_s⟩
theorem c22 {m : Nat} {is : List AOp} {ls st : List Value} {E : AEn} {hi : AHi} {hr : AHr} {n : Nat} {Q : ARs → Prop} (x0 : Nat) (x1 : Int32) : Tm E m (o_call 22 :: is) ls (.int x1 :: .ref x0 :: st) hi hr n Q ↔ (a_kd x0 = 1 ∧ x0 < n ∧ st.length ≤ 4) ∧ Sp E 22 [.ref x0, .int x1] hi hr n (fun r => Tm E m is ls (r.1.toList ++ st) r.2.1 r.2.2.1 r.2.2.2 Q) := T_cI [.int x1] rfl rfl rfl rfl
/-! CartoonHouse$Bytes.skip(I)Z -/
theorem k23_0 : a_bl 23 0 = [o_al 0, o_call 16, o_if 0 1, o_al 0, o_al 0, o_getI 1 2, o_call 12, o_il 1, o_ic 1 1, o_I (J 1), o_goto 2] := rfl
theorem k23_1 : a_bl 23 1 = [o_I (J 0), o_ft 2] := rfl
theorem k23_2 : a_bl 23 2 = [o_is 2, o_il 2, o_if 0 3, o_al 0, o_dup, o_getI 1 2, o_I (J 1), o_bin 0, o_putI 1 2, o_ft 3] := rfl
theorem k23_3 : a_bl 23 3 = [o_il 2, o_ret 1] := rfl
theorem k23_r : a_rt 23 = (some .boolean) := rfl
theorem k23_s {E : AEn} {hi : AHi} {hr : AHr} {n : Nat} {Q : ARs → Prop} (x0 : Nat) (x1 : Int32) : Sp E 23 [.ref x0, .int x1] hi hr n Q ↔ Tm E 23 (a_bl 23 0) [.ref x0, .int x1, a_mk] [] hi hr n Q := Iff.rfl
theorem K23 : (type_of% k23_0) ∧ (type_of% k23_1) ∧ (type_of% k23_2) ∧ (type_of% k23_3) ∧ (type_of% k23_r) ∧ (type_of% @k23_s) := ⟨k23_0, k23_1, k23_2, k23_3, k23_r, @k23_s⟩
theorem c23 {m : Nat} {is : List AOp} {ls st : List Value} {E : AEn} {hi : AHi} {hr : AHr} {n : Nat} {Q : ARs → Prop} (x0 : Nat) (x1 : Int32) : Tm E m (o_call 23 :: is) ls (.int x1 :: .ref x0 :: st) hi hr n Q ↔ (a_kd x0 = 1 ∧ x0 < n ∧ st.length ≤ 4) ∧ Sp E 23 [.ref x0, .int x1] hi hr n (fun r => Tm E m is ls (r.1.toList ++ st) r.2.1 r.2.2.1 r.2.2.2 Q) := T_cI [.int x1] rfl rfl rfl rfl
/-! CartoonHouse$Bytes.wrong()I -/
theorem k24_0 : a_bl 24 0 = [o_I (J (-1000)), o_al 0, o_getI 1 3, o_bin 1, o_ret 1] := rfl
theorem k24_r : a_rt 24 = (some .int) := rfl
theorem k24_s {E : AEn} {hi : AHi} {hr : AHr} {n : Nat} {Q : ARs → Prop} (x0 : Nat) : Sp E 24 [.ref x0] hi hr n Q ↔ Tm E 24 (a_bl 24 0) [.ref x0] [] hi hr n Q := Iff.rfl
theorem K24 : (type_of% k24_0) ∧ (type_of% k24_r) ∧ (type_of% @k24_s) := ⟨k24_0, k24_r, @k24_s⟩
theorem c24 {m : Nat} {is : List AOp} {ls st : List Value} {E : AEn} {hi : AHi} {hr : AHr} {n : Nat} {Q : ARs → Prop} (x0 : Nat) : Tm E m (o_call 24 :: is) ls (.ref x0 :: st) hi hr n Q ↔ (a_kd x0 = 1 ∧ x0 < n ∧ st.length ≤ 4) ∧ Sp E 24 [.ref x0] hi hr n (fun r => Tm E m is ls (r.1.toList ++ st) r.2.1 r.2.2.1 r.2.2.2 Q) := T_cI [] rfl rfl rfl rfl
/-! CartoonHouse$Bytes.makeEmpty()V -/
theorem k25_0 : a_bl 25 0 = [o_al 0, o_I (J 0), o_putI 1 1, o_ret 0] := rfl
theorem k25_r : a_rt 25 = none := rfl
theorem k25_s {E : AEn} {hi : AHi} {hr : AHr} {n : Nat} {Q : ARs → Prop} (x0 : Nat) : Sp E 25 [.ref x0] hi hr n Q ↔ Tm E 25 (a_bl 25 0) [.ref x0] [] hi hr n Q := Iff.rfl
theorem K25 : (type_of% k25_0) ∧ (type_of% k25_r) ∧ (type_of% @k25_s) := ⟨k25_0, k25_r, @k25_s⟩
theorem c25 {m : Nat} {is : List AOp} {ls st : List Value} {E : AEn} {hi : AHi} {hr : AHr} {n : Nat} {Q : ARs → Prop} (x0 : Nat) : Tm E m (o_call 25 :: is) ls (.ref x0 :: st) hi hr n Q ↔ (a_kd x0 = 1 ∧ x0 < n ∧ st.length ≤ 4) ∧ Sp E 25 [.ref x0] hi hr n (fun r => Tm E m is ls (r.1.toList ++ st) r.2.1 r.2.2.1 r.2.2.2 Q) := T_cI [] rfl rfl rfl rfl
/-! CartoonHouse$Bytes.putNumber(I)V -/
theorem k26_0 : a_bl 26 0 = [o_il 1, o_I (J 10), o_ic 2 1, o_al 0, o_I (J 48), o_il 1, o_I (J 10), o_bin 9, o_bin 0, o_call 11, o_ft 1] := rfl
theorem k26_1 : a_bl 26 1 = [o_al 0, o_I (J 48), o_il 1, o_I (J 10), o_bin 10, o_bin 0, o_call 11, o_ret 0] := rfl
theorem k26_r : a_rt 26 = none := rfl
theorem k26_s {E : AEn} {hi : AHi} {hr : AHr} {n : Nat} {Q : ARs → Prop} (x0 : Nat) (x1 : Int32) : Sp E 26 [.ref x0, .int x1] hi hr n Q ↔ Tm E 26 (a_bl 26 0) [.ref x0, .int x1] [] hi hr n Q := Iff.rfl
theorem K26 : (type_of% k26_0) ∧ (type_of% k26_1) ∧ (type_of% k26_r) ∧ (type_of% @k26_s) := ⟨k26_0, k26_1, k26_r, @k26_s⟩
theorem c26 {m : Nat} {is : List AOp} {ls st : List Value} {E : AEn} {hi : AHi} {hr : AHr} {n : Nat} {Q : ARs → Prop} (x0 : Nat) (x1 : Int32) : Tm E m (o_call 26 :: is) ls (.int x1 :: .ref x0 :: st) hi hr n Q ↔ (a_kd x0 = 1 ∧ x0 < n ∧ st.length ≤ 4) ∧ Sp E 26 [.ref x0, .int x1] hi hr n (fun r => Tm E m is ls (r.1.toList ++ st) r.2.1 r.2.2.1 r.2.2.2 Q) := T_cI [.int x1] rfl rfl rfl rfl
/-! CartoonHouse$Bytes.readInt(II)I -/
theorem k27_0 : a_bl 27 0 = [o_al 0, o_getI 1 2, o_is 3, o_al 0, o_I (J 45), o_call 23, o_is 4, o_il 4, o_if 0 1, o_al 0, o_call 19, o_I (J 48), o_ic 1 1, o_al 0, o_al 0, o_getI 1 2, o_call 18, o_ft 1] := rfl
theorem k27_1 : a_bl 27 1 = [o_il 4, o_if 0 2, o_al 0, o_call 15, o_un 0, o_goto 3] := rfl
theorem k27_2 : a_bl 27 2 = [o_al 0, o_call 15, o_ft 3] := rfl
theorem k27_3 : a_bl 27 3 = [o_is 5, o_il 5, o_il 1, o_ic 2 4, o_il 5, o_il 2, o_ic 5 5, o_ft 4] := rfl
theorem k27_4 : a_bl 27 4 = [o_al 0, o_il 3, o_call 18, o_ft 5] := rfl
theorem k27_5 : a_bl 27 5 = [o_il 5, o_ret 1] := rfl
theorem k27_r : a_rt 27 = (some .int) := rfl
theorem k27_s {E : AEn} {hi : AHi} {hr : AHr} {n : Nat} {Q : ARs → Prop} (x0 : Nat) (x1 : Int32) (x2 : Int32) : Sp E 27 [.ref x0, .int x1, .int x2] hi hr n Q ↔ Tm E 27 (a_bl 27 0) [.ref x0, .int x1, .int x2, a_mk, a_mk, a_mk] [] hi hr n Q := Iff.rfl
theorem K27 : (type_of% k27_0) ∧ (type_of% k27_1) ∧ (type_of% k27_2) ∧ (type_of% k27_3) ∧ (type_of% k27_4) ∧ (type_of% k27_5) ∧ (type_of% k27_r) ∧ (type_of% @k27_s) := ⟨k27_0, k27_1, k27_2, k27_3, k27_4, k27_5, k27_r, @k27_s⟩
theorem c27 {m : Nat} {is : List AOp} {ls st : List Value} {E : AEn} {hi : AHi} {hr : AHr} {n : Nat} {Q : ARs → Prop} (x0 : Nat) (x1 : Int32) (x2 : Int32) : Tm E m (o_call 27 :: is) ls (.int x2 :: .int x1 :: .ref x0 :: st) hi hr n Q ↔ (a_kd x0 = 1 ∧ x0 < n ∧ st.length ≤ 4) ∧ Sp E 27 [.ref x0, .int x1, .int x2] hi hr n (fun r => Tm E m is ls (r.1.toList ++ st) r.2.1 r.2.2.1 r.2.2.2 Q) := T_cI [.int x1, .int x2] rfl rfl rfl rfl
/-! CartoonHouse$Bytes.makeRoom(I)V -/
theorem k28_0 : a_bl 28 0 = [o_al 0, o_getR 1 0, o_alen, o_il 1, o_ic 3 1, o_al 0, o_al 0, o_getR 1 0, o_il 1, o_call 357, o_putR 1 0, o_ft 1] := rfl
theorem k28_1 : a_bl 28 1 = [o_ret 0] := rfl
theorem k28_r : a_rt 28 = none := rfl
theorem k28_s {E : AEn} {hi : AHi} {hr : AHr} {n : Nat} {Q : ARs → Prop} (x0 : Nat) (x1 : Int32) : Sp E 28 [.ref x0, .int x1] hi hr n Q ↔ Tm E 28 (a_bl 28 0) [.ref x0, .int x1] [] hi hr n Q := Iff.rfl
theorem K28 : (type_of% k28_0) ∧ (type_of% k28_1) ∧ (type_of% k28_r) ∧ (type_of% @k28_s) := ⟨k28_0, k28_1, k28_r, @k28_s⟩
theorem c28 {m : Nat} {is : List AOp} {ls st : List Value} {E : AEn} {hi : AHi} {hr : AHr} {n : Nat} {Q : ARs → Prop} (x0 : Nat) (x1 : Int32) : Tm E m (o_call 28 :: is) ls (.int x1 :: .ref x0 :: st) hi hr n Q ↔ (a_kd x0 = 1 ∧ x0 < n ∧ st.length ≤ 4) ∧ Sp E 28 [.ref x0, .int x1] hi hr n (fun r => Tm E m is ls (r.1.toList ++ st) r.2.1 r.2.2.1 r.2.2.2 Q) := T_cI [.int x1] rfl rfl rfl rfl
/-! CartoonHouse$Canvas.<init>()V -/
theorem k29_0 : a_bl 29 0 = [o_al 0, o_obj, o_al 0, o_I (J 1536), o_newa 20, o_putR 2 0, o_al 0, o_I (J 1536), o_newa 20, o_putR 2 1, o_al 0, o_I (J 1536), o_newa 20, o_putR 2 2, o_al 0, o_I (J 1536), o_newa 20, o_putR 2 3, o_al 0, o_I (J 16), o_newa 20, o_putR 2 6, o_al 0, o_I (J 16), o_newa 20, o_putR 2 7, o_ret 0] := rfl
theorem k29_r : a_rt 29 = none := rfl
theorem k29_s {E : AEn} {hi : AHi} {hr : AHr} {n : Nat} {Q : ARs → Prop} (x0 : Nat) : Sp E 29 [.ref x0] hi hr n Q ↔ Tm E 29 (a_bl 29 0) [.ref x0] [] hi hr n Q := Iff.rfl
theorem K29 : (type_of% k29_0) ∧ (type_of% k29_r) ∧ (type_of% @k29_s) := ⟨k29_0, k29_r, @k29_s⟩
theorem c29 {m : Nat} {is : List AOp} {ls st : List Value} {E : AEn} {hi : AHi} {hr : AHr} {n : Nat} {Q : ARs → Prop} (x0 : Nat) : Tm E m (o_call 29 :: is) ls (.ref x0 :: st) hi hr n Q ↔ (a_kd x0 = 2 ∧ x0 < n ∧ st.length ≤ 4) ∧ Sp E 29 [.ref x0] hi hr n (fun r => Tm E m is ls (r.1.toList ++ st) r.2.1 r.2.2.1 r.2.2.2 Q) := T_cI [] rfl rfl rfl rfl
/-! CartoonHouse$Canvas.regionOf(LCartoonHouse$Drawing;II)I -/
theorem k30_0 : a_bl 30 0 = [o_al 0, o_al 1, o_call 31, o_al 0, o_il 2, o_il 3, o_call 34, o_al 0, o_getI 2 5, o_if 0 1, o_I (J (-5)), o_goto 2] := rfl
theorem k30_1 : a_bl 30 1 = [o_al 0, o_getI 2 4, o_ft 2] := rfl
theorem k30_2 : a_bl 30 2 = [o_ret 1] := rfl
theorem k30_r : a_rt 30 = (some .int) := rfl
theorem k30_s {E : AEn} {hi : AHi} {hr : AHr} {n : Nat} {Q : ARs → Prop} (x0 : Nat) (x1 : Nat) (x2 : Int32) (x3 : Int32) : Sp E 30 [.ref x0, .ref x1, .int x2, .int x3] hi hr n Q ↔ Tm E 30 (a_bl 30 0) [.ref x0, .ref x1, .int x2, .int x3] [] hi hr n Q := Iff.rfl
theorem K30 : (type_of% k30_0) ∧ (type_of% k30_1) ∧ (type_of% k30_2) ∧ (type_of% k30_r) ∧ (type_of% @k30_s) := ⟨k30_0, k30_1, k30_2, k30_r, @k30_s⟩
theorem c30 {m : Nat} {is : List AOp} {ls st : List Value} {E : AEn} {hi : AHi} {hr : AHr} {n : Nat} {Q : ARs → Prop} (x0 : Nat) (x1 : Nat) (x2 : Int32) (x3 : Int32) : Tm E m (o_call 30 :: is) ls (.int x3 :: .int x2 :: .ref x1 :: .ref x0 :: st) hi hr n Q ↔ (a_kd x0 = 2 ∧ x0 < n ∧ st.length ≤ 4) ∧ Sp E 30 [.ref x0, .ref x1, .int x2, .int x3] hi hr n (fun r => Tm E m is ls (r.1.toList ++ st) r.2.1 r.2.2.1 r.2.2.2 Q) := T_cI [.ref x1, .int x2, .int x3] rfl rfl rfl rfl
/-! CartoonHouse$Canvas.drawInk(LCartoonHouse$Drawing;)V -/
theorem k31_0 : a_bl 31 0 = [o_al 0, o_getR 2 0, o_I (J 0), o_call 356, o_al 0, o_I (J 0), o_putI 2 8, o_I (J 0), o_is 2, o_ft 1] := rfl
theorem k31_1 : a_bl 31 1 = [o_il 2, o_al 1, o_getI 3 1, o_ic 3 5, o_al 1, o_getR 3 0, o_il 2, o_aald, o_as 3, o_I (J 0), o_is 4, o_ft 2] := rfl
theorem k31_2 : a_bl 31 2 = [o_il 4, o_al 3, o_getI 9 1, o_I (J 1), o_bin 1, o_ic 3 3, o_al 0, o_getR 2 0, o_al 3, o_getI 9 0, o_al 3, o_getR 9 2, o_il 4, o_iald, o_al 3, o_getR 9 3, o_il 4, o_iald, o_al 3, o_getR 9 2, o_il 4, o_I (J 1), o_bin 0, o_iald, o_al 3, o_getR 9 3, o_il 4, o_I (J 1), o_bin 0, o_iald, o_call 32, o_iinc 4 (J 1), o_goto 2] := rfl
theorem k31_3 : a_bl 31 3 = [o_al 3, o_getI 9 1, o_if 5 4, o_al 3, o_I (J 0), o_al 3, o_getI 9 1, o_I (J 1), o_bin 1, o_call 119, o_if 1 4, o_al 0, o_al 3, o_I (J 0), o_call 33, o_al 0, o_al 3, o_al 3, o_getI 9 1, o_I (J 1), o_bin 1, o_call 33, o_ft 4] := rfl
theorem k31_4 : a_bl 31 4 = [o_iinc 2 (J 1), o_goto 1] := rfl
theorem k31_5 : a_bl 31 5 = [o_ret 0] := rfl
theorem k31_r : a_rt 31 = none := rfl
theorem k31_s {E : AEn} {hi : AHi} {hr : AHr} {n : Nat} {Q : ARs → Prop} (x0 : Nat) (x1 : Nat) : Sp E 31 [.ref x0, .ref x1] hi hr n Q ↔ Tm E 31 (a_bl 31 0) [.ref x0, .ref x1, a_mk, a_mk, a_mk] [] hi hr n Q := Iff.rfl
theorem K31 : (type_of% k31_0) ∧ (type_of% k31_3) ∧ (type_of% k31_4) ∧ (type_of% k31_5) ∧ (type_of% k31_r) ∧ (type_of% @k31_s) := ⟨k31_0, k31_3, k31_4, k31_5, k31_r, @k31_s⟩
theorem c31 {m : Nat} {is : List AOp} {ls st : List Value} {E : AEn} {hi : AHi} {hr : AHr} {n : Nat} {Q : ARs → Prop} (x0 : Nat) (x1 : Nat) : Tm E m (o_call 31 :: is) ls (.ref x1 :: .ref x0 :: st) hi hr n Q ↔ (a_kd x0 = 2 ∧ x0 < n ∧ st.length ≤ 4) ∧ Sp E 31 [.ref x0, .ref x1] hi hr n (fun r => Tm E m is ls (r.1.toList ++ st) r.2.1 r.2.2.1 r.2.2.2 Q) := T_cI [.ref x1] rfl rfl rfl rfl
/-! CartoonHouse$Canvas.drawLine([IIIIII)V -/
theorem k32_0 : a_bl 32 0 = [o_il 4, o_il 2, o_bin 1, o_is 6, o_il 5, o_il 3, o_bin 1, o_is 7, o_il 6, o_call 346, o_il 7, o_call 346, o_call 347, o_is 8, o_I (J 0), o_is 9, o_ft 1] := rfl
theorem k32_1 : a_bl 32 1 = [o_il 9, o_il 8, o_ic 4 7, o_il 8, o_if 1 2, o_il 2, o_goto 3] := rfl
theorem k32_2 : a_bl 32 2 = [o_il 2, o_I (J 2), o_il 9, o_bin 2, o_il 6, o_bin 2, o_il 8, o_bin 0, o_I (J 2), o_il 8, o_bin 2, o_call 350, o_bin 0, o_ft 3] := rfl
theorem k32_3 : a_bl 32 3 = [o_is 10, o_il 8, o_if 1 4, o_il 3, o_goto 5] := rfl
theorem k32_4 : a_bl 32 4 = [o_il 3, o_I (J 2), o_il 9, o_bin 2, o_il 7, o_bin 2, o_il 8, o_bin 0, o_I (J 2), o_il 8, o_bin 2, o_call 350, o_bin 0, o_ft 5] := rfl
theorem k32_5 : a_bl 32 5 = [o_is 11, o_il 10, o_il 11, o_call 145, o_if 0 6, o_al 0, o_il 10, o_il 11, o_call 151, o_il 1, o_iast, o_ft 6] := rfl
theorem k32_6 : a_bl 32 6 = [o_iinc 9 (J 1), o_goto 1] := rfl
theorem k32_7 : a_bl 32 7 = [o_ret 0] := rfl
theorem k32_r : a_rt 32 = none := rfl
theorem k32_s {E : AEn} {hi : AHi} {hr : AHr} {n : Nat} {Q : ARs → Prop} (x0 : Nat) (x1 : Int32) (x2 : Int32) (x3 : Int32) (x4 : Int32) (x5 : Int32) : Sp E 32 [.ref x0, .int x1, .int x2, .int x3, .int x4, .int x5] hi hr n Q ↔ Tm E 32 (a_bl 32 0) [.ref x0, .int x1, .int x2, .int x3, .int x4, .int x5, a_mk, a_mk, a_mk, a_mk, a_mk, a_mk] [] hi hr n Q := Iff.rfl
theorem K32 : (type_of% k32_0) ∧ (type_of% k32_2) ∧ (type_of% k32_3) ∧ (type_of% k32_4) ∧ (type_of% k32_5) ∧ (type_of% k32_6) ∧ (type_of% k32_7) ∧ (type_of% k32_r) ∧ (type_of% @k32_s) := ⟨k32_0, k32_2, k32_3, k32_4, k32_5, k32_6, k32_7, k32_r, @k32_s⟩
theorem c32 {m : Nat} {is : List AOp} {ls st : List Value} {E : AEn} {hi : AHi} {hr : AHr} {n : Nat} {Q : ARs → Prop} (x0 : Nat) (x1 : Int32) (x2 : Int32) (x3 : Int32) (x4 : Int32) (x5 : Int32) : Tm E m (o_call 32 :: is) ls (.int x5 :: .int x4 :: .int x3 :: .int x2 :: .int x1 :: .ref x0 :: st) hi hr n Q ↔ st.length ≤ 4 ∧ Sp E 32 [.ref x0, .int x1, .int x2, .int x3, .int x4, .int x5] hi hr n (fun r => Tm E m is ls (r.1.toList ++ st) r.2.1 r.2.2.1 r.2.2.2 Q) := T_cS [.ref x0, .int x1, .int x2, .int x3, .int x4, .int x5] rfl rfl
/-! CartoonHouse$Canvas.addEnd(LCartoonHouse$Stroke;I)V -/
theorem k33_0 : a_bl 33 0 = [o_al 0, o_getI 2 8, o_al 0, o_getR 2 6, o_alen, o_ic 3 1, o_al 0, o_getR 2 6, o_al 0, o_getI 2 8, o_al 1, o_getR 9 2, o_il 2, o_iald, o_iast, o_al 0, o_getR 2 7, o_al 0, o_getI 2 8, o_al 1, o_getR 9 3, o_il 2, o_iald, o_iast, o_al 0, o_dup, o_getI 2 8, o_I (J 1), o_bin 0, o_putI 2 8, o_ft 1] := rfl
theorem k33_1 : a_bl 33 1 = [o_ret 0] := rfl
theorem k33_r : a_rt 33 = none := rfl
theorem k33_s {E : AEn} {hi : AHi} {hr : AHr} {n : Nat} {Q : ARs → Prop} (x0 : Nat) (x1 : Nat) (x2 : Int32) : Sp E 33 [.ref x0, .ref x1, .int x2] hi hr n Q ↔ Tm E 33 (a_bl 33 0) [.ref x0, .ref x1, .int x2] [] hi hr n Q := Iff.rfl
theorem K33 : (type_of% k33_0) ∧ (type_of% k33_1) ∧ (type_of% k33_r) ∧ (type_of% @k33_s) := ⟨k33_0, k33_1, k33_r, @k33_s⟩
theorem c33 {m : Nat} {is : List AOp} {ls st : List Value} {E : AEn} {hi : AHi} {hr : AHr} {n : Nat} {Q : ARs → Prop} (x0 : Nat) (x1 : Nat) (x2 : Int32) : Tm E m (o_call 33 :: is) ls (.int x2 :: .ref x1 :: .ref x0 :: st) hi hr n Q ↔ (a_kd x0 = 2 ∧ x0 < n ∧ st.length ≤ 4) ∧ Sp E 33 [.ref x0, .ref x1, .int x2] hi hr n (fun r => Tm E m is ls (r.1.toList ++ st) r.2.1 r.2.2.1 r.2.2.2 Q) := T_cI [.ref x1, .int x2] rfl rfl rfl rfl
/-! CartoonHouse$Canvas.findRegion(II)V -/
theorem k34_0 : a_bl 34 0 = [o_al 0, o_il 2, o_call 35, o_al 0, o_I (J 0), o_putI 2 4, o_al 0, o_I (J 0), o_putZ 2 5, o_al 0, o_il 1, o_call 36, o_I (J 0), o_is 3, o_ft 1] := rfl
theorem k34_1 : a_bl 34 1 = [o_il 3, o_I (J 1536), o_ic 3 2, o_il 3, o_al 0, o_getI 2 4, o_ic 3 2, o_al 0, o_getI 2 5, o_if 1 2, o_al 0, o_getR 2 3, o_il 3, o_iald, o_is 4, o_al 0, o_il 4, o_I (J 1), o_bin 1, o_call 36, o_al 0, o_il 4, o_I (J 1), o_bin 0, o_call 36, o_al 0, o_il 4, o_I (J 48), o_bin 1, o_call 36, o_al 0, o_il 4, o_I (J 48), o_bin 0, o_call 36, o_iinc 3 (J 1), o_goto 1] := rfl
theorem k34_2 : a_bl 34 2 = [o_ret 0] := rfl
theorem k34_r : a_rt 34 = none := rfl
theorem k34_s {E : AEn} {hi : AHi} {hr : AHr} {n : Nat} {Q : ARs → Prop} (x0 : Nat) (x1 : Int32) (x2 : Int32) : Sp E 34 [.ref x0, .int x1, .int x2] hi hr n Q ↔ Tm E 34 (a_bl 34 0) [.ref x0, .int x1, .int x2, a_mk, a_mk] [] hi hr n Q := Iff.rfl
theorem K34 : (type_of% k34_0) ∧ (type_of% k34_2) ∧ (type_of% k34_r) ∧ (type_of% @k34_s) := ⟨k34_0, k34_2, k34_r, @k34_s⟩
theorem c34 {m : Nat} {is : List AOp} {ls st : List Value} {E : AEn} {hi : AHi} {hr : AHr} {n : Nat} {Q : ARs → Prop} (x0 : Nat) (x1 : Int32) (x2 : Int32) : Tm E m (o_call 34 :: is) ls (.int x2 :: .int x1 :: .ref x0 :: st) hi hr n Q ↔ (a_kd x0 = 2 ∧ x0 < n ∧ st.length ≤ 4) ∧ Sp E 34 [.ref x0, .int x1, .int x2] hi hr n (fun r => Tm E m is ls (r.1.toList ++ st) r.2.1 r.2.2.1 r.2.2.2 Q) := T_cI [.int x1, .int x2] rfl rfl rfl rfl
/-! CartoonHouse$Canvas.raiseWalls(I)V -/
theorem k35_0 : a_bl 35 0 = [o_al 0, o_getR 2 0, o_I (J 0), o_al 0, o_getR 2 2, o_I (J 0), o_I (J 1536), o_cp, o_I (J 0), o_is 2, o_ft 1] := rfl
theorem k35_1 : a_bl 35 1 = [o_il 2, o_al 0, o_getI 2 8, o_ic 3 5, o_il 2, o_I (J 1), o_bin 0, o_is 3, o_ft 2] := rfl
theorem k35_2 : a_bl 35 2 = [o_il 3, o_al 0, o_getI 2 8, o_ic 3 4, o_al 0, o_getR 2 6, o_il 3, o_iald, o_al 0, o_getR 2 6, o_il 2, o_iald, o_bin 1, o_is 4, o_al 0, o_getR 2 7, o_il 3, o_iald, o_al 0, o_getR 2 7, o_il 2, o_iald, o_bin 1, o_is 5, o_il 4, o_il 4, o_bin 2, o_il 5, o_il 5, o_bin 2, o_bin 0, o_is 6, o_il 6, o_if 5 3, o_il 6, o_il 1, o_il 1, o_bin 2, o_ic 4 3, o_al 0, o_getR 2 2, o_I (J 1), o_al 0, o_getR 2 6, o_il 2, o_iald, o_al 0, o_getR 2 7, o_il 2, o_iald, o_al 0, o_getR 2 6, o_il 3, o_iald, o_al 0, o_getR 2 7, o_il 3, o_iald, o_call 32, o_ft 3] := rfl
theorem k35_3 : a_bl 35 3 = [o_iinc 3 (J 1), o_goto 2] := rfl
theorem k35_4 : a_bl 35 4 = [o_iinc 2 (J 1), o_goto 1] := rfl
theorem k35_5 : a_bl 35 5 = [o_ret 0] := rfl
theorem k35_r : a_rt 35 = none := rfl
theorem k35_s {E : AEn} {hi : AHi} {hr : AHr} {n : Nat} {Q : ARs → Prop} (x0 : Nat) (x1 : Int32) : Sp E 35 [.ref x0, .int x1] hi hr n Q ↔ Tm E 35 (a_bl 35 0) [.ref x0, .int x1, a_mk, a_mk, a_mk, a_mk, a_mk] [] hi hr n Q := Iff.rfl
theorem K35 : (type_of% k35_0) ∧ (type_of% k35_3) ∧ (type_of% k35_4) ∧ (type_of% k35_5) ∧ (type_of% k35_r) ∧ (type_of% @k35_s) := ⟨k35_0, k35_3, k35_4, k35_5, k35_r, @k35_s⟩
theorem c35 {m : Nat} {is : List AOp} {ls st : List Value} {E : AEn} {hi : AHi} {hr : AHr} {n : Nat} {Q : ARs → Prop} (x0 : Nat) (x1 : Int32) : Tm E m (o_call 35 :: is) ls (.int x1 :: .ref x0 :: st) hi hr n Q ↔ (a_kd x0 = 2 ∧ x0 < n ∧ st.length ≤ 4) ∧ Sp E 35 [.ref x0, .int x1] hi hr n (fun r => Tm E m is ls (r.1.toList ++ st) r.2.1 r.2.2.1 r.2.2.2 Q) := T_cI [.int x1] rfl rfl rfl rfl
/-! CartoonHouse$Canvas.comeTo(I)V -/
theorem k36_0 : a_bl 36 0 = [o_il 1, o_if 2 2, o_il 1, o_I (J 1536), o_ic 3 2, o_al 0, o_getI 2 4, o_I (J 1536), o_ic 3 2, o_al 0, o_getR 2 2, o_il 1, o_iald, o_if 1 2, o_al 0, o_getR 2 2, o_il 1, o_I (J 100), o_iast, o_al 0, o_getR 2 3, o_al 0, o_getI 2 4, o_il 1, o_iast, o_al 0, o_dup, o_getI 2 4, o_I (J 1), o_bin 0, o_putI 2 4, o_il 1, o_I (J 48), o_bin 10, o_is 2, o_il 2, o_if 0 1, o_il 2, o_I (J 47), o_ic 0 1, o_il 1, o_I (J 48), o_ic 2 1, o_il 1, o_I (J 1488), o_ic 2 2, o_ft 1] := rfl
theorem k36_1 : a_bl 36 1 = [o_al 0, o_I (J 1), o_putZ 2 5, o_ft 2] := rfl
theorem k36_2 : a_bl 36 2 = [o_ret 0] := rfl
theorem k36_r : a_rt 36 = none := rfl
theorem k36_s {E : AEn} {hi : AHi} {hr : AHr} {n : Nat} {Q : ARs → Prop} (x0 : Nat) (x1 : Int32) : Sp E 36 [.ref x0, .int x1] hi hr n Q ↔ Tm E 36 (a_bl 36 0) [.ref x0, .int x1, a_mk] [] hi hr n Q := Iff.rfl
theorem K36 : (type_of% k36_0) ∧ (type_of% k36_1) ∧ (type_of% k36_2) ∧ (type_of% k36_r) ∧ (type_of% @k36_s) := ⟨k36_0, k36_1, k36_2, k36_r, @k36_s⟩
theorem c36 {m : Nat} {is : List AOp} {ls st : List Value} {E : AEn} {hi : AHi} {hr : AHr} {n : Nat} {Q : ARs → Prop} (x0 : Nat) (x1 : Int32) : Tm E m (o_call 36 :: is) ls (.int x1 :: .ref x0 :: st) hi hr n Q ↔ (a_kd x0 = 2 ∧ x0 < n ∧ st.length ≤ 4) ∧ Sp E 36 [.ref x0, .int x1] hi hr n (fun r => Tm E m is ls (r.1.toList ++ st) r.2.1 r.2.2.1 r.2.2.2 Q) := T_cI [.int x1] rfl rfl rfl rfl
/-! CartoonHouse$Canvas.drawPaint(LCartoonHouse$Drawing;)V -/
theorem k37_0 : a_bl 37 0 = [o_al 0, o_al 1, o_call 31, o_al 0, o_getR 2 0, o_I (J 0), o_al 0, o_getR 2 1, o_I (J 0), o_I (J 1536), o_cp, o_I (J 0), o_is 2, o_ft 1] := rfl
theorem k37_1 : a_bl 37 1 = [o_il 2, o_al 1, o_getI 3 5, o_ic 3 4, o_al 0, o_al 1, o_getR 3 2, o_il 2, o_iald, o_al 1, o_getR 3 3, o_il 2, o_iald, o_call 34, o_I (J 0), o_is 3, o_ft 2] := rfl
theorem k37_2 : a_bl 37 2 = [o_il 3, o_al 0, o_getI 2 4, o_ic 3 3, o_al 0, o_getI 2 5, o_if 1 3, o_al 0, o_getR 2 1, o_al 0, o_getR 2 3, o_il 3, o_iald, o_al 1, o_getR 3 4, o_il 2, o_iald, o_iast, o_iinc 3 (J 1), o_goto 2] := rfl
theorem k37_3 : a_bl 37 3 = [o_iinc 2 (J 1), o_goto 1] := rfl
theorem k37_4 : a_bl 37 4 = [o_ret 0] := rfl
theorem k37_r : a_rt 37 = none := rfl
theorem k37_s {E : AEn} {hi : AHi} {hr : AHr} {n : Nat} {Q : ARs → Prop} (x0 : Nat) (x1 : Nat) : Sp E 37 [.ref x0, .ref x1] hi hr n Q ↔ Tm E 37 (a_bl 37 0) [.ref x0, .ref x1, a_mk, a_mk] [] hi hr n Q := Iff.rfl
theorem K37 : (type_of% k37_0) ∧ (type_of% k37_3) ∧ (type_of% k37_4) ∧ (type_of% k37_r) ∧ (type_of% @k37_s) := ⟨k37_0, k37_3, k37_4, k37_r, @k37_s⟩
theorem c37 {m : Nat} {is : List AOp} {ls st : List Value} {E : AEn} {hi : AHi} {hr : AHr} {n : Nat} {Q : ARs → Prop} (x0 : Nat) (x1 : Nat) : Tm E m (o_call 37 :: is) ls (.ref x1 :: .ref x0 :: st) hi hr n Q ↔ (a_kd x0 = 2 ∧ x0 < n ∧ st.length ≤ 4) ∧ Sp E 37 [.ref x0, .ref x1] hi hr n (fun r => Tm E m is ls (r.1.toList ++ st) r.2.1 r.2.2.1 r.2.2.2 Q) := T_cI [.ref x1] rfl rfl rfl rfl
/-! CartoonHouse$Drawing.<init>()V -/
theorem k38_0 : a_bl 38 0 = [o_al 0, o_obj, o_al 0, o_I (J 8), o_anew 39, o_putR 3 0, o_al 0, o_I (J 6), o_newa 20, o_putR 3 2, o_al 0, o_I (J 6), o_newa 20, o_putR 3 3, o_al 0, o_I (J 6), o_newa 20, o_putR 3 4, o_I (J 0), o_is 1, o_ft 1] := rfl
theorem k38_1 : a_bl 38 1 = [o_il 1, o_I (J 8), o_ic 3 2, o_al 0, o_getR 3 0, o_il 1, o_new 9, o_dup, o_call 110, o_aast, o_iinc 1 (J 1), o_goto 1] := rfl
theorem k38_2 : a_bl 38 2 = [o_ret 0] := rfl
theorem k38_r : a_rt 38 = none := rfl
theorem k38_s {E : AEn} {hi : AHi} {hr : AHr} {n : Nat} {Q : ARs → Prop} (x0 : Nat) : Sp E 38 [.ref x0] hi hr n Q ↔ Tm E 38 (a_bl 38 0) [.ref x0, a_mk] [] hi hr n Q := Iff.rfl
theorem K38 : (type_of% k38_0) ∧ (type_of% k38_2) ∧ (type_of% k38_r) ∧ (type_of% @k38_s) := ⟨k38_0, k38_2, k38_r, @k38_s⟩
theorem c38 {m : Nat} {is : List AOp} {ls st : List Value} {E : AEn} {hi : AHi} {hr : AHr} {n : Nat} {Q : ARs → Prop} (x0 : Nat) : Tm E m (o_call 38 :: is) ls (.ref x0 :: st) hi hr n Q ↔ (a_kd x0 = 3 ∧ x0 < n ∧ st.length ≤ 4) ∧ Sp E 38 [.ref x0] hi hr n (fun r => Tm E m is ls (r.1.toList ++ st) r.2.1 r.2.2.1 r.2.2.2 Q) := T_cI [] rfl rfl rfl rfl
/-! CartoonHouse$Drawing.addPart(LCartoonHouse$Stroke;II)Z -/
theorem k39_0 : a_bl 39 0 = [o_al 0, o_getI 3 1, o_I (J 8), o_ic 2 1, o_I (J 0), o_ret 1] := rfl
theorem k39_1 : a_bl 39 1 = [o_al 0, o_getR 3 0, o_al 0, o_getI 3 1, o_aald, o_al 1, o_il 2, o_il 3, o_call 115, o_al 0, o_dup, o_getI 3 1, o_I (J 1), o_bin 0, o_putI 3 1, o_I (J 1), o_ret 1] := rfl
theorem k39_r : a_rt 39 = (some .boolean) := rfl
theorem k39_s {E : AEn} {hi : AHi} {hr : AHr} {n : Nat} {Q : ARs → Prop} (x0 : Nat) (x1 : Nat) (x2 : Int32) (x3 : Int32) : Sp E 39 [.ref x0, .ref x1, .int x2, .int x3] hi hr n Q ↔ Tm E 39 (a_bl 39 0) [.ref x0, .ref x1, .int x2, .int x3] [] hi hr n Q := Iff.rfl
theorem K39 : (type_of% k39_0) ∧ (type_of% k39_1) ∧ (type_of% k39_r) ∧ (type_of% @k39_s) := ⟨k39_0, k39_1, k39_r, @k39_s⟩
theorem c39 {m : Nat} {is : List AOp} {ls st : List Value} {E : AEn} {hi : AHi} {hr : AHr} {n : Nat} {Q : ARs → Prop} (x0 : Nat) (x1 : Nat) (x2 : Int32) (x3 : Int32) : Tm E m (o_call 39 :: is) ls (.int x3 :: .int x2 :: .ref x1 :: .ref x0 :: st) hi hr n Q ↔ (a_kd x0 = 3 ∧ x0 < n ∧ st.length ≤ 4) ∧ Sp E 39 [.ref x0, .ref x1, .int x2, .int x3] hi hr n (fun r => Tm E m is ls (r.1.toList ++ st) r.2.1 r.2.2.1 r.2.2.2 Q) := T_cI [.ref x1, .int x2, .int x3] rfl rfl rfl rfl
/-! CartoonHouse$Drawing.dropStroke(I)V -/
theorem k40_0 : a_bl 40 0 = [o_al 0, o_getR 3 0, o_il 1, o_aald, o_as 2, o_il 1, o_is 3, o_ft 1] := rfl
theorem k40_1 : a_bl 40 1 = [o_il 3, o_al 0, o_getI 3 1, o_I (J 1), o_bin 1, o_ic 3 2, o_al 0, o_getR 3 0, o_il 3, o_al 0, o_getR 3 0, o_il 3, o_I (J 1), o_bin 0, o_aald, o_aast, o_iinc 3 (J 1), o_goto 1] := rfl
theorem k40_2 : a_bl 40 2 = [o_al 0, o_getR 3 0, o_al 0, o_getI 3 1, o_I (J 1), o_bin 1, o_al 2, o_aast, o_al 0, o_dup, o_getI 3 1, o_I (J 1), o_bin 1, o_putI 3 1, o_ret 0] := rfl
theorem k40_r : a_rt 40 = none := rfl
theorem k40_s {E : AEn} {hi : AHi} {hr : AHr} {n : Nat} {Q : ARs → Prop} (x0 : Nat) (x1 : Int32) : Sp E 40 [.ref x0, .int x1] hi hr n Q ↔ Tm E 40 (a_bl 40 0) [.ref x0, .int x1, a_mk, a_mk] [] hi hr n Q := Iff.rfl
theorem K40 : (type_of% k40_0) ∧ (type_of% k40_2) ∧ (type_of% k40_r) ∧ (type_of% @k40_s) := ⟨k40_0, k40_2, k40_r, @k40_s⟩
theorem c40 {m : Nat} {is : List AOp} {ls st : List Value} {E : AEn} {hi : AHi} {hr : AHr} {n : Nat} {Q : ARs → Prop} (x0 : Nat) (x1 : Int32) : Tm E m (o_call 40 :: is) ls (.int x1 :: .ref x0 :: st) hi hr n Q ↔ (a_kd x0 = 3 ∧ x0 < n ∧ st.length ≤ 4) ∧ Sp E 40 [.ref x0, .int x1] hi hr n (fun r => Tm E m is ls (r.1.toList ++ st) r.2.1 r.2.2.1 r.2.2.2 Q) := T_cI [.int x1] rfl rfl rfl rfl
/-! CartoonHouse$Drawing.writeTo(LCartoonHouse$Bytes;)V -/
theorem k41_0 : a_bl 41 0 = [o_I (J 0), o_is 2, o_ft 1] := rfl
theorem k41_1 : a_bl 41 1 = [o_il 2, o_al 0, o_getI 3 1, o_ic 3 2, o_al 0, o_getR 3 0, o_il 2, o_aald, o_al 1, o_call 116, o_iinc 2 (J 1), o_goto 1] := rfl
theorem k41_2 : a_bl 41 2 = [o_ret 0] := rfl
theorem k41_r : a_rt 41 = none := rfl
theorem k41_s {E : AEn} {hi : AHi} {hr : AHr} {n : Nat} {Q : ARs → Prop} (x0 : Nat) (x1 : Nat) : Sp E 41 [.ref x0, .ref x1] hi hr n Q ↔ Tm E 41 (a_bl 41 0) [.ref x0, .ref x1, a_mk] [] hi hr n Q := Iff.rfl
theorem K41 : (type_of% k41_0) ∧ (type_of% k41_2) ∧ (type_of% k41_r) ∧ (type_of% @k41_s) := ⟨k41_0, k41_2, k41_r, @k41_s⟩
theorem c41 {m : Nat} {is : List AOp} {ls st : List Value} {E : AEn} {hi : AHi} {hr : AHr} {n : Nat} {Q : ARs → Prop} (x0 : Nat) (x1 : Nat) : Tm E m (o_call 41 :: is) ls (.ref x1 :: .ref x0 :: st) hi hr n Q ↔ (a_kd x0 = 3 ∧ x0 < n ∧ st.length ≤ 4) ∧ Sp E 41 [.ref x0, .ref x1] hi hr n (fun r => Tm E m is ls (r.1.toList ++ st) r.2.1 r.2.2.1 r.2.2.2 Q) := T_cI [.ref x1] rfl rfl rfl rfl
/-! CartoonHouse$Drawing.becomeErased(LCartoonHouse$Drawing;III)I -/
theorem k42_0 : a_bl 42 0 = [o_al 0, o_I (J 0), o_putI 3 1, o_I (J 0), o_is 5, o_I (J 1), o_is 6, o_I (J 0), o_is 7, o_ft 1] := rfl
theorem k42_1 : a_bl 42 1 = [o_il 7, o_al 1, o_getI 3 1, o_ic 3 7, o_al 1, o_getR 3 0, o_il 7, o_aald, o_as 8, o_I (J 0), o_is 9, o_I (J 0), o_is 10, o_ft 2] := rfl
theorem k42_2 : a_bl 42 2 = [o_il 10, o_al 8, o_getI 9 1, o_I (J 1), o_bin 1, o_ic 3 5, o_al 8, o_il 10, o_il 2, o_il 3, o_il 4, o_call 121, o_if 0 4, o_il 9, o_il 10, o_ic 3 3, o_al 0, o_al 8, o_il 9, o_il 10, o_call 39, o_if 1 3, o_I (J 0), o_is 6, o_ft 3] := rfl
theorem k42_3 : a_bl 42 3 = [o_il 10, o_I (J 1), o_bin 0, o_is 9, o_iinc 5 (J 1), o_ft 4] := rfl
theorem k42_4 : a_bl 42 4 = [o_iinc 10 (J 1), o_goto 2] := rfl
theorem k42_5 : a_bl 42 5 = [o_il 9, o_al 8, o_getI 9 1, o_I (J 1), o_bin 1, o_ic 3 6, o_al 0, o_al 8, o_il 9, o_al 8, o_getI 9 1, o_I (J 1), o_bin 1, o_call 39, o_if 1 6, o_I (J 0), o_is 6, o_ft 6] := rfl
theorem k42_6 : a_bl 42 6 = [o_iinc 7 (J 1), o_goto 1] := rfl
theorem k42_7 : a_bl 42 7 = [o_il 6, o_if 0 8, o_il 5, o_goto 9] := rfl
theorem k42_8 : a_bl 42 8 = [o_I (J (-4)), o_ft 9] := rfl
theorem k42_9 : a_bl 42 9 = [o_ret 1] := rfl
theorem k42_r : a_rt 42 = (some .int) := rfl
theorem k42_s {E : AEn} {hi : AHi} {hr : AHr} {n : Nat} {Q : ARs → Prop} (x0 : Nat) (x1 : Nat) (x2 : Int32) (x3 : Int32) (x4 : Int32) : Sp E 42 [.ref x0, .ref x1, .int x2, .int x3, .int x4] hi hr n Q ↔ Tm E 42 (a_bl 42 0) [.ref x0, .ref x1, .int x2, .int x3, .int x4, a_mk, a_mk, a_mk, a_mk, a_mk, a_mk] [] hi hr n Q := Iff.rfl
theorem K42 : (type_of% k42_0) ∧ (type_of% k42_3) ∧ (type_of% k42_4) ∧ (type_of% k42_5) ∧ (type_of% k42_6) ∧ (type_of% k42_7) ∧ (type_of% k42_8) ∧ (type_of% k42_9) ∧ (type_of% k42_r) ∧ (type_of% @k42_s) := ⟨k42_0, k42_3, k42_4, k42_5, k42_6, k42_7, k42_8, k42_9, k42_r, @k42_s⟩
theorem c42 {m : Nat} {is : List AOp} {ls st : List Value} {E : AEn} {hi : AHi} {hr : AHr} {n : Nat} {Q : ARs → Prop} (x0 : Nat) (x1 : Nat) (x2 : Int32) (x3 : Int32) (x4 : Int32) : Tm E m (o_call 42 :: is) ls (.int x4 :: .int x3 :: .int x2 :: .ref x1 :: .ref x0 :: st) hi hr n Q ↔ (a_kd x0 = 3 ∧ x0 < n ∧ st.length ≤ 4) ∧ Sp E 42 [.ref x0, .ref x1, .int x2, .int x3, .int x4] hi hr n (fun r => Tm E m is ls (r.1.toList ++ st) r.2.1 r.2.2.1 r.2.2.2 Q) := T_cI [.ref x1, .int x2, .int x3, .int x4] rfl rfl rfl rfl
/-! CartoonHouse$Drawing.copyStrokes(LCartoonHouse$Drawing;)V -/
theorem k43_0 : a_bl 43 0 = [o_al 0, o_I (J 0), o_putI 3 1, o_I (J 0), o_is 2, o_ft 1] := rfl
theorem k43_1 : a_bl 43 1 = [o_il 2, o_al 1, o_getI 3 1, o_ic 3 2, o_al 0, o_al 1, o_getR 3 0, o_il 2, o_aald, o_I (J 0), o_al 1, o_getR 3 0, o_il 2, o_aald, o_getI 9 1, o_I (J 1), o_bin 1, o_call 39, o_pop, o_iinc 2 (J 1), o_goto 1] := rfl
theorem k43_2 : a_bl 43 2 = [o_ret 0] := rfl
theorem k43_r : a_rt 43 = none := rfl
theorem k43_s {E : AEn} {hi : AHi} {hr : AHr} {n : Nat} {Q : ARs → Prop} (x0 : Nat) (x1 : Nat) : Sp E 43 [.ref x0, .ref x1] hi hr n Q ↔ Tm E 43 (a_bl 43 0) [.ref x0, .ref x1, a_mk] [] hi hr n Q := Iff.rfl
theorem K43 : (type_of% k43_0) ∧ (type_of% k43_2) ∧ (type_of% k43_r) ∧ (type_of% @k43_s) := ⟨k43_0, k43_2, k43_r, @k43_s⟩
theorem c43 {m : Nat} {is : List AOp} {ls st : List Value} {E : AEn} {hi : AHi} {hr : AHr} {n : Nat} {Q : ARs → Prop} (x0 : Nat) (x1 : Nat) : Tm E m (o_call 43 :: is) ls (.ref x1 :: .ref x0 :: st) hi hr n Q ↔ (a_kd x0 = 3 ∧ x0 < n ∧ st.length ≤ 4) ∧ Sp E 43 [.ref x0, .ref x1] hi hr n (fun r => Tm E m is ls (r.1.toList ++ st) r.2.1 r.2.2.1 r.2.2.2 Q) := T_cI [.ref x1] rfl rfl rfl rfl
/-! CartoonHouse$Drawing.addFill(III)V -/
theorem k44_0 : a_bl 44 0 = [o_al 0, o_getI 3 5, o_I (J 6), o_ic 3 1, o_al 0, o_getR 3 2, o_al 0, o_getI 3 5, o_il 1, o_iast, o_al 0, o_getR 3 3, o_al 0, o_getI 3 5, o_il 2, o_iast, o_al 0, o_getR 3 4, o_al 0, o_getI 3 5, o_il 3, o_iast, o_al 0, o_dup, o_getI 3 5, o_I (J 1), o_bin 0, o_putI 3 5, o_ft 1] := rfl
theorem k44_1 : a_bl 44 1 = [o_ret 0] := rfl
theorem k44_r : a_rt 44 = none := rfl
theorem k44_s {E : AEn} {hi : AHi} {hr : AHr} {n : Nat} {Q : ARs → Prop} (x0 : Nat) (x1 : Int32) (x2 : Int32) (x3 : Int32) : Sp E 44 [.ref x0, .int x1, .int x2, .int x3] hi hr n Q ↔ Tm E 44 (a_bl 44 0) [.ref x0, .int x1, .int x2, .int x3] [] hi hr n Q := Iff.rfl
theorem K44 : (type_of% k44_0) ∧ (type_of% k44_1) ∧ (type_of% k44_r) ∧ (type_of% @k44_s) := ⟨k44_0, k44_1, k44_r, @k44_s⟩
theorem c44 {m : Nat} {is : List AOp} {ls st : List Value} {E : AEn} {hi : AHi} {hr : AHr} {n : Nat} {Q : ARs → Prop} (x0 : Nat) (x1 : Int32) (x2 : Int32) (x3 : Int32) : Tm E m (o_call 44 :: is) ls (.int x3 :: .int x2 :: .int x1 :: .ref x0 :: st) hi hr n Q ↔ (a_kd x0 = 3 ∧ x0 < n ∧ st.length ≤ 4) ∧ Sp E 44 [.ref x0, .int x1, .int x2, .int x3] hi hr n (fun r => Tm E m is ls (r.1.toList ++ st) r.2.1 r.2.2.1 r.2.2.2 Q) := T_cI [.int x1, .int x2, .int x3] rfl rfl rfl rfl
/-! CartoonHouse$Drawing.dropFill(I)V -/
theorem k45_0 : a_bl 45 0 = [o_il 1, o_is 2, o_ft 1] := rfl
theorem k45_1 : a_bl 45 1 = [o_il 2, o_al 0, o_getI 3 5, o_I (J 1), o_bin 1, o_ic 3 2, o_al 0, o_getR 3 2, o_il 2, o_al 0, o_getR 3 2, o_il 2, o_I (J 1), o_bin 0, o_iald, o_iast, o_al 0, o_getR 3 3, o_il 2, o_al 0, o_getR 3 3, o_il 2, o_I (J 1), o_bin 0, o_iald, o_iast, o_al 0, o_getR 3 4, o_il 2, o_al 0, o_getR 3 4, o_il 2, o_I (J 1), o_bin 0, o_iald, o_iast, o_iinc 2 (J 1), o_goto 1] := rfl
theorem k45_2 : a_bl 45 2 = [o_al 0, o_dup, o_getI 3 5, o_I (J 1), o_bin 1, o_putI 3 5, o_ret 0] := rfl
theorem k45_r : a_rt 45 = none := rfl
theorem k45_s {E : AEn} {hi : AHi} {hr : AHr} {n : Nat} {Q : ARs → Prop} (x0 : Nat) (x1 : Int32) : Sp E 45 [.ref x0, .int x1] hi hr n Q ↔ Tm E 45 (a_bl 45 0) [.ref x0, .int x1, a_mk] [] hi hr n Q := Iff.rfl
theorem K45 : (type_of% k45_0) ∧ (type_of% k45_2) ∧ (type_of% k45_r) ∧ (type_of% @k45_s) := ⟨k45_0, k45_2, k45_r, @k45_s⟩
theorem c45 {m : Nat} {is : List AOp} {ls st : List Value} {E : AEn} {hi : AHi} {hr : AHr} {n : Nat} {Q : ARs → Prop} (x0 : Nat) (x1 : Int32) : Tm E m (o_call 45 :: is) ls (.int x1 :: .ref x0 :: st) hi hr n Q ↔ (a_kd x0 = 3 ∧ x0 < n ∧ st.length ≤ 4) ∧ Sp E 45 [.ref x0, .int x1] hi hr n (fun r => Tm E m is ls (r.1.toList ++ st) r.2.1 r.2.2.1 r.2.2.2 Q) := T_cI [.int x1] rfl rfl rfl rfl
/-! CartoonHouse$Drawing.becomeBetween(LCartoonHouse$Drawing;LCartoonHouse$Drawing;[III)V -/
theorem k46_0 : a_bl 46 0 = [o_al 0, o_I (J 0), o_putI 3 1, o_I (J 2), o_il 4, o_bin 2, o_il 5, o_ic 3 1, o_I (J 1), o_goto 2] := rfl
theorem k46_1 : a_bl 46 1 = [o_I (J 0), o_ft 2] := rfl
theorem k46_2 : a_bl 46 2 = [o_is 6, o_I (J 0), o_is 7, o_I (J 0), o_is 8, o_ft 3] := rfl
theorem k46_3 : a_bl 46 3 = [o_il 8, o_al 1, o_getI 3 1, o_ic 3 6, o_al 3, o_il 8, o_iald, o_al 2, o_getI 3 1, o_ic 3 4, o_il 7, o_I (J 1), o_al 3, o_il 8, o_iald, o_bin 6, o_bin 4, o_is 7, o_al 0, o_al 1, o_getR 3 0, o_il 8, o_aald, o_al 2, o_getR 3 0, o_al 3, o_il 8, o_iald, o_aald, o_il 4, o_il 5, o_call 47, o_goto 5] := rfl
theorem k46_4 : a_bl 46 4 = [o_il 6, o_if 0 5, o_al 0, o_al 1, o_getR 3 0, o_il 8, o_aald, o_I (J 0), o_al 1, o_getR 3 0, o_il 8, o_aald, o_getI 9 1, o_I (J 1), o_bin 1, o_call 39, o_pop, o_ft 5] := rfl
theorem k46_5 : a_bl 46 5 = [o_iinc 8 (J 1), o_goto 3] := rfl
theorem k46_6 : a_bl 46 6 = [o_I (J 0), o_is 8, o_ft 7] := rfl
theorem k46_7 : a_bl 46 7 = [o_il 8, o_al 2, o_getI 3 1, o_ic 3 9, o_il 6, o_if 1 9, o_il 7, o_il 8, o_bin 7, o_I (J 1), o_bin 3, o_if 1 8, o_al 0, o_al 2, o_getR 3 0, o_il 8, o_aald, o_I (J 0), o_al 2, o_getR 3 0, o_il 8, o_aald, o_getI 9 1, o_I (J 1), o_bin 1, o_call 39, o_pop, o_ft 8] := rfl
theorem k46_8 : a_bl 46 8 = [o_iinc 8 (J 1), o_goto 7] := rfl
theorem k46_9 : a_bl 46 9 = [o_ret 0] := rfl
theorem k46_r : a_rt 46 = none := rfl
theorem k46_s {E : AEn} {hi : AHi} {hr : AHr} {n : Nat} {Q : ARs → Prop} (x0 : Nat) (x1 : Nat) (x2 : Nat) (x3 : Nat) (x4 : Int32) (x5 : Int32) : Sp E 46 [.ref x0, .ref x1, .ref x2, .ref x3, .int x4, .int x5] hi hr n Q ↔ Tm E 46 (a_bl 46 0) [.ref x0, .ref x1, .ref x2, .ref x3, .int x4, .int x5, a_mk, a_mk, a_mk] [] hi hr n Q := Iff.rfl
theorem K46 : (type_of% k46_0) ∧ (type_of% k46_1) ∧ (type_of% k46_2) ∧ (type_of% k46_4) ∧ (type_of% k46_5) ∧ (type_of% k46_6) ∧ (type_of% k46_8) ∧ (type_of% k46_9) ∧ (type_of% k46_r) ∧ (type_of% @k46_s) := ⟨k46_0, k46_1, k46_2, k46_4, k46_5, k46_6, k46_8, k46_9, k46_r, @k46_s⟩
theorem c46 {m : Nat} {is : List AOp} {ls st : List Value} {E : AEn} {hi : AHi} {hr : AHr} {n : Nat} {Q : ARs → Prop} (x0 : Nat) (x1 : Nat) (x2 : Nat) (x3 : Nat) (x4 : Int32) (x5 : Int32) : Tm E m (o_call 46 :: is) ls (.int x5 :: .int x4 :: .ref x3 :: .ref x2 :: .ref x1 :: .ref x0 :: st) hi hr n Q ↔ (a_kd x0 = 3 ∧ x0 < n ∧ st.length ≤ 4) ∧ Sp E 46 [.ref x0, .ref x1, .ref x2, .ref x3, .int x4, .int x5] hi hr n (fun r => Tm E m is ls (r.1.toList ++ st) r.2.1 r.2.2.1 r.2.2.2 Q) := T_cI [.ref x1, .ref x2, .ref x3, .int x4, .int x5] rfl rfl rfl rfl
/-! CartoonHouse$Drawing.addBetween(LCartoonHouse$Stroke;LCartoonHouse$Stroke;II)V -/
theorem k47_0 : a_bl 47 0 = [o_al 0, o_getI 3 1, o_I (J 8), o_ic 3 1, o_al 0, o_getR 3 0, o_al 0, o_getI 3 1, o_aald, o_al 1, o_al 2, o_il 3, o_il 4, o_call 129, o_al 0, o_getR 3 0, o_al 0, o_getI 3 1, o_aald, o_getI 9 1, o_I (J 2), o_ic 2 1, o_al 0, o_dup, o_getI 3 1, o_I (J 1), o_bin 0, o_putI 3 1, o_ft 1] := rfl
theorem k47_1 : a_bl 47 1 = [o_ret 0] := rfl
theorem k47_r : a_rt 47 = none := rfl
theorem k47_s {E : AEn} {hi : AHi} {hr : AHr} {n : Nat} {Q : ARs → Prop} (x0 : Nat) (x1 : Nat) (x2 : Nat) (x3 : Int32) (x4 : Int32) : Sp E 47 [.ref x0, .ref x1, .ref x2, .int x3, .int x4] hi hr n Q ↔ Tm E 47 (a_bl 47 0) [.ref x0, .ref x1, .ref x2, .int x3, .int x4] [] hi hr n Q := Iff.rfl
theorem K47 : (type_of% k47_0) ∧ (type_of% k47_1) ∧ (type_of% k47_r) ∧ (type_of% @k47_s) := ⟨k47_0, k47_1, k47_r, @k47_s⟩
theorem c47 {m : Nat} {is : List AOp} {ls st : List Value} {E : AEn} {hi : AHi} {hr : AHr} {n : Nat} {Q : ARs → Prop} (x0 : Nat) (x1 : Nat) (x2 : Nat) (x3 : Int32) (x4 : Int32) : Tm E m (o_call 47 :: is) ls (.int x4 :: .int x3 :: .ref x2 :: .ref x1 :: .ref x0 :: st) hi hr n Q ↔ (a_kd x0 = 3 ∧ x0 < n ∧ st.length ≤ 4) ∧ Sp E 47 [.ref x0, .ref x1, .ref x2, .int x3, .int x4] hi hr n (fun r => Tm E m is ls (r.1.toList ++ st) r.2.1 r.2.2.1 r.2.2.2 Q) := T_cI [.ref x1, .ref x2, .int x3, .int x4] rfl rfl rfl rfl
/-! CartoonHouse$Drawing.copyFills(LCartoonHouse$Drawing;)V -/
theorem k48_0 : a_bl 48 0 = [o_al 0, o_I (J 0), o_putI 3 5, o_I (J 0), o_is 2, o_ft 1] := rfl
theorem k48_1 : a_bl 48 1 = [o_il 2, o_al 1, o_getI 3 5, o_ic 3 2, o_al 0, o_al 1, o_getR 3 2, o_il 2, o_iald, o_al 1, o_getR 3 3, o_il 2, o_iald, o_al 1, o_getR 3 4, o_il 2, o_iald, o_call 44, o_iinc 2 (J 1), o_goto 1] := rfl
theorem k48_2 : a_bl 48 2 = [o_ret 0] := rfl
theorem k48_r : a_rt 48 = none := rfl
theorem k48_s {E : AEn} {hi : AHi} {hr : AHr} {n : Nat} {Q : ARs → Prop} (x0 : Nat) (x1 : Nat) : Sp E 48 [.ref x0, .ref x1] hi hr n Q ↔ Tm E 48 (a_bl 48 0) [.ref x0, .ref x1, a_mk] [] hi hr n Q := Iff.rfl
theorem K48 : (type_of% k48_0) ∧ (type_of% k48_2) ∧ (type_of% k48_r) ∧ (type_of% @k48_s) := ⟨k48_0, k48_2, k48_r, @k48_s⟩
theorem c48 {m : Nat} {is : List AOp} {ls st : List Value} {E : AEn} {hi : AHi} {hr : AHr} {n : Nat} {Q : ARs → Prop} (x0 : Nat) (x1 : Nat) : Tm E m (o_call 48 :: is) ls (.ref x1 :: .ref x0 :: st) hi hr n Q ↔ (a_kd x0 = 3 ∧ x0 < n ∧ st.length ≤ 4) ∧ Sp E 48 [.ref x0, .ref x1] hi hr n (fun r => Tm E m is ls (r.1.toList ++ st) r.2.1 r.2.2.1 r.2.2.2 Q) := T_cI [.ref x1] rfl rfl rfl rfl
/-! CartoonHouse$Drawing.becomeWiggled(LCartoonHouse$Drawing;LCartoonHouse$Layer;I)V -/
theorem k49_0 : a_bl 49 0 = [o_al 0, o_al 1, o_getI 3 1, o_putI 3 1, o_al 2, o_il 3, o_call 66, o_is 4, o_I (J 0), o_is 5, o_ft 1] := rfl
theorem k49_1 : a_bl 49 1 = [o_il 5, o_al 0, o_getI 3 1, o_ic 3 2, o_al 0, o_getR 3 0, o_il 5, o_aald, o_al 1, o_getR 3 0, o_il 5, o_aald, o_il 5, o_al 2, o_il 4, o_call 131, o_iinc 5 (J 1), o_goto 1] := rfl
theorem k49_2 : a_bl 49 2 = [o_al 0, o_al 1, o_call 48, o_ret 0] := rfl
theorem k49_r : a_rt 49 = none := rfl
theorem k49_s {E : AEn} {hi : AHi} {hr : AHr} {n : Nat} {Q : ARs → Prop} (x0 : Nat) (x1 : Nat) (x2 : Nat) (x3 : Int32) : Sp E 49 [.ref x0, .ref x1, .ref x2, .int x3] hi hr n Q ↔ Tm E 49 (a_bl 49 0) [.ref x0, .ref x1, .ref x2, .int x3, a_mk, a_mk] [] hi hr n Q := Iff.rfl
theorem K49 : (type_of% k49_0) ∧ (type_of% k49_2) ∧ (type_of% k49_r) ∧ (type_of% @k49_s) := ⟨k49_0, k49_2, k49_r, @k49_s⟩
theorem c49 {m : Nat} {is : List AOp} {ls st : List Value} {E : AEn} {hi : AHi} {hr : AHr} {n : Nat} {Q : ARs → Prop} (x0 : Nat) (x1 : Nat) (x2 : Nat) (x3 : Int32) : Tm E m (o_call 49 :: is) ls (.int x3 :: .ref x2 :: .ref x1 :: .ref x0 :: st) hi hr n Q ↔ (a_kd x0 = 3 ∧ x0 < n ∧ st.length ≤ 4) ∧ Sp E 49 [.ref x0, .ref x1, .ref x2, .int x3] hi hr n (fun r => Tm E m is ls (r.1.toList ++ st) r.2.1 r.2.2.1 r.2.2.2 Q) := T_cI [.ref x1, .ref x2, .int x3] rfl rfl rfl rfl
/-! CartoonHouse$Keys.<init>(I)V -/
theorem k50_0 : a_bl 50 0 = [o_al 0, o_obj, o_al 0, o_il 1, o_newa 20, o_putR 4 0, o_al 0, o_il 1, o_newa 20, o_putR 4 1, o_ret 0] := rfl
theorem k50_r : a_rt 50 = none := rfl
theorem k50_s {E : AEn} {hi : AHi} {hr : AHr} {n : Nat} {Q : ARs → Prop} (x0 : Nat) (x1 : Int32) : Sp E 50 [.ref x0, .int x1] hi hr n Q ↔ Tm E 50 (a_bl 50 0) [.ref x0, .int x1] [] hi hr n Q := Iff.rfl
theorem K50 : (type_of% k50_0) ∧ (type_of% k50_r) ∧ (type_of% @k50_s) := ⟨k50_0, k50_r, @k50_s⟩
theorem c50 {m : Nat} {is : List AOp} {ls st : List Value} {E : AEn} {hi : AHi} {hr : AHr} {n : Nat} {Q : ARs → Prop} (x0 : Nat) (x1 : Int32) : Tm E m (o_call 50 :: is) ls (.int x1 :: .ref x0 :: st) hi hr n Q ↔ (a_kd x0 = 4 ∧ x0 < n ∧ st.length ≤ 4) ∧ Sp E 50 [.ref x0, .int x1] hi hr n (fun r => Tm E m is ls (r.1.toList ++ st) r.2.1 r.2.2.1 r.2.2.2 Q) := T_cI [.int x1] rfl rfl rfl rfl
/-! CartoonHouse$Keys.hasRoomAt(I)Z -/
theorem k51_0 : a_bl 51 0 = [o_al 0, o_getI 4 2, o_al 0, o_getR 4 0, o_alen, o_ic 2 1, o_al 0, o_il 1, o_call 52, o_if 0 2, o_ft 1] := rfl
theorem k51_1 : a_bl 51 1 = [o_I (J 1), o_goto 3] := rfl
theorem k51_2 : a_bl 51 2 = [o_I (J 0), o_ft 3] := rfl
theorem k51_3 : a_bl 51 3 = [o_ret 1] := rfl
theorem k51_r : a_rt 51 = (some .boolean) := rfl
theorem k51_s {E : AEn} {hi : AHi} {hr : AHr} {n : Nat} {Q : ARs → Prop} (x0 : Nat) (x1 : Int32) : Sp E 51 [.ref x0, .int x1] hi hr n Q ↔ Tm E 51 (a_bl 51 0) [.ref x0, .int x1] [] hi hr n Q := Iff.rfl
theorem K51 : (type_of% k51_0) ∧ (type_of% k51_1) ∧ (type_of% k51_2) ∧ (type_of% k51_3) ∧ (type_of% k51_r) ∧ (type_of% @k51_s) := ⟨k51_0, k51_1, k51_2, k51_3, k51_r, @k51_s⟩
theorem c51 {m : Nat} {is : List AOp} {ls st : List Value} {E : AEn} {hi : AHi} {hr : AHr} {n : Nat} {Q : ARs → Prop} (x0 : Nat) (x1 : Int32) : Tm E m (o_call 51 :: is) ls (.int x1 :: .ref x0 :: st) hi hr n Q ↔ (a_kd x0 = 4 ∧ x0 < n ∧ st.length ≤ 4) ∧ Sp E 51 [.ref x0, .int x1] hi hr n (fun r => Tm E m is ls (r.1.toList ++ st) r.2.1 r.2.2.1 r.2.2.2 Q) := T_cI [.int x1] rfl rfl rfl rfl
/-! CartoonHouse$Keys.isThere(I)Z -/
theorem k52_0 : a_bl 52 0 = [o_al 0, o_il 1, o_call 53, o_is 2, o_il 2, o_al 0, o_getI 4 2, o_ic 3 1, o_al 0, o_getR 4 0, o_il 2, o_iald, o_il 1, o_ic 1 1, o_I (J 1), o_goto 2] := rfl
theorem k52_1 : a_bl 52 1 = [o_I (J 0), o_ft 2] := rfl
theorem k52_2 : a_bl 52 2 = [o_ret 1] := rfl
theorem k52_r : a_rt 52 = (some .boolean) := rfl
theorem k52_s {E : AEn} {hi : AHi} {hr : AHr} {n : Nat} {Q : ARs → Prop} (x0 : Nat) (x1 : Int32) : Sp E 52 [.ref x0, .int x1] hi hr n Q ↔ Tm E 52 (a_bl 52 0) [.ref x0, .int x1, a_mk] [] hi hr n Q := Iff.rfl
theorem K52 : (type_of% k52_0) ∧ (type_of% k52_1) ∧ (type_of% k52_2) ∧ (type_of% k52_r) ∧ (type_of% @k52_s) := ⟨k52_0, k52_1, k52_2, k52_r, @k52_s⟩
theorem c52 {m : Nat} {is : List AOp} {ls st : List Value} {E : AEn} {hi : AHi} {hr : AHr} {n : Nat} {Q : ARs → Prop} (x0 : Nat) (x1 : Int32) : Tm E m (o_call 52 :: is) ls (.int x1 :: .ref x0 :: st) hi hr n Q ↔ (a_kd x0 = 4 ∧ x0 < n ∧ st.length ≤ 4) ∧ Sp E 52 [.ref x0, .int x1] hi hr n (fun r => Tm E m is ls (r.1.toList ++ st) r.2.1 r.2.2.1 r.2.2.2 Q) := T_cI [.int x1] rfl rfl rfl rfl
/-! CartoonHouse$Keys.ahead(I)I -/
theorem k53_0 : a_bl 53 0 = [o_I (J 0), o_is 2, o_ft 1] := rfl
theorem k53_1 : a_bl 53 1 = [o_il 2, o_al 0, o_getI 4 2, o_ic 3 2, o_al 0, o_getR 4 0, o_il 2, o_iald, o_il 1, o_ic 3 2, o_iinc 2 (J 1), o_goto 1] := rfl
theorem k53_2 : a_bl 53 2 = [o_il 2, o_ret 1] := rfl
theorem k53_r : a_rt 53 = (some .int) := rfl
theorem k53_s {E : AEn} {hi : AHi} {hr : AHr} {n : Nat} {Q : ARs → Prop} (x0 : Nat) (x1 : Int32) : Sp E 53 [.ref x0, .int x1] hi hr n Q ↔ Tm E 53 (a_bl 53 0) [.ref x0, .int x1, a_mk] [] hi hr n Q := Iff.rfl
theorem K53 : (type_of% k53_0) ∧ (type_of% k53_2) ∧ (type_of% k53_r) ∧ (type_of% @k53_s) := ⟨k53_0, k53_2, k53_r, @k53_s⟩
theorem c53 {m : Nat} {is : List AOp} {ls st : List Value} {E : AEn} {hi : AHi} {hr : AHr} {n : Nat} {Q : ARs → Prop} (x0 : Nat) (x1 : Int32) : Tm E m (o_call 53 :: is) ls (.int x1 :: .ref x0 :: st) hi hr n Q ↔ (a_kd x0 = 4 ∧ x0 < n ∧ st.length ≤ 4) ∧ Sp E 53 [.ref x0, .int x1] hi hr n (fun r => Tm E m is ls (r.1.toList ++ st) r.2.1 r.2.2.1 r.2.2.2 Q) := T_cI [.int x1] rfl rfl rfl rfl
/-! CartoonHouse$Keys.put(II)V -/
theorem k54_0 : a_bl 54 0 = [o_al 0, o_il 1, o_call 51, o_if 1 1, o_ret 0] := rfl
theorem k54_1 : a_bl 54 1 = [o_al 0, o_il 1, o_call 53, o_is 3, o_al 0, o_il 1, o_call 52, o_if 1 2, o_al 0, o_getR 4 0, o_il 3, o_al 0, o_getR 4 0, o_il 3, o_I (J 1), o_bin 0, o_al 0, o_getI 4 2, o_il 3, o_bin 1, o_cp, o_al 0, o_getR 4 1, o_il 3, o_al 0, o_getR 4 1, o_il 3, o_I (J 1), o_bin 0, o_al 0, o_getI 4 2, o_il 3, o_bin 1, o_cp, o_al 0, o_dup, o_getI 4 2, o_I (J 1), o_bin 0, o_putI 4 2, o_ft 2] := rfl
theorem k54_2 : a_bl 54 2 = [o_al 0, o_getR 4 0, o_il 3, o_il 1, o_iast, o_al 0, o_getR 4 1, o_il 3, o_il 2, o_iast, o_ret 0] := rfl
theorem k54_r : a_rt 54 = none := rfl
theorem k54_s {E : AEn} {hi : AHi} {hr : AHr} {n : Nat} {Q : ARs → Prop} (x0 : Nat) (x1 : Int32) (x2 : Int32) : Sp E 54 [.ref x0, .int x1, .int x2] hi hr n Q ↔ Tm E 54 (a_bl 54 0) [.ref x0, .int x1, .int x2, a_mk] [] hi hr n Q := Iff.rfl
theorem K54 : (type_of% k54_0) ∧ (type_of% k54_1) ∧ (type_of% k54_2) ∧ (type_of% k54_r) ∧ (type_of% @k54_s) := ⟨k54_0, k54_1, k54_2, k54_r, @k54_s⟩
theorem c54 {m : Nat} {is : List AOp} {ls st : List Value} {E : AEn} {hi : AHi} {hr : AHr} {n : Nat} {Q : ARs → Prop} (x0 : Nat) (x1 : Int32) (x2 : Int32) : Tm E m (o_call 54 :: is) ls (.int x2 :: .int x1 :: .ref x0 :: st) hi hr n Q ↔ (a_kd x0 = 4 ∧ x0 < n ∧ st.length ≤ 4) ∧ Sp E 54 [.ref x0, .int x1, .int x2] hi hr n (fun r => Tm E m is ls (r.1.toList ++ st) r.2.1 r.2.2.1 r.2.2.2 Q) := T_cI [.int x1, .int x2] rfl rfl rfl rfl
/-! CartoonHouse$Keys.valueAt(II)I -/
theorem k55_0 : a_bl 55 0 = [o_al 0, o_getI 4 2, o_if 1 1, o_il 2, o_ret 1] := rfl
theorem k55_1 : a_bl 55 1 = [o_al 0, o_il 1, o_call 53, o_is 3, o_il 3, o_al 0, o_getI 4 2, o_ic 1 2, o_al 0, o_getR 4 1, o_al 0, o_getI 4 2, o_I (J 1), o_bin 1, o_iald, o_ret 1] := rfl
theorem k55_2 : a_bl 55 2 = [o_il 3, o_if 0 3, o_al 0, o_getR 4 0, o_il 3, o_iald, o_il 1, o_ic 1 4, o_ft 3] := rfl
theorem k55_3 : a_bl 55 3 = [o_al 0, o_getR 4 1, o_il 3, o_iald, o_ret 1] := rfl
theorem k55_4 : a_bl 55 4 = [o_al 0, o_getR 4 1, o_il 3, o_I (J 1), o_bin 1, o_iald, o_is 4, o_il 4, o_al 0, o_getR 4 1, o_il 3, o_iald, o_il 4, o_bin 1, o_il 1, o_al 0, o_getR 4 0, o_il 3, o_I (J 1), o_bin 1, o_iald, o_bin 1, o_bin 2, o_un 1, o_al 0, o_getR 4 0, o_il 3, o_iald, o_al 0, o_getR 4 0, o_il 3, o_I (J 1), o_bin 1, o_iald, o_bin 1, o_un 1, o_call 146, o_bin 0, o_ret 1] := rfl
theorem k55_r : a_rt 55 = (some .int) := rfl
theorem k55_s {E : AEn} {hi : AHi} {hr : AHr} {n : Nat} {Q : ARs → Prop} (x0 : Nat) (x1 : Int32) (x2 : Int32) : Sp E 55 [.ref x0, .int x1, .int x2] hi hr n Q ↔ Tm E 55 (a_bl 55 0) [.ref x0, .int x1, .int x2, a_mk, a_mk] [] hi hr n Q := Iff.rfl
theorem K55 : (type_of% k55_0) ∧ (type_of% k55_1) ∧ (type_of% k55_2) ∧ (type_of% k55_3) ∧ (type_of% k55_4) ∧ (type_of% k55_r) ∧ (type_of% @k55_s) := ⟨k55_0, k55_1, k55_2, k55_3, k55_4, k55_r, @k55_s⟩
theorem c55 {m : Nat} {is : List AOp} {ls st : List Value} {E : AEn} {hi : AHi} {hr : AHr} {n : Nat} {Q : ARs → Prop} (x0 : Nat) (x1 : Int32) (x2 : Int32) : Tm E m (o_call 55 :: is) ls (.int x2 :: .int x1 :: .ref x0 :: st) hi hr n Q ↔ (a_kd x0 = 4 ∧ x0 < n ∧ st.length ≤ 4) ∧ Sp E 55 [.ref x0, .int x1, .int x2] hi hr n (fun r => Tm E m is ls (r.1.toList ++ st) r.2.1 r.2.2.1 r.2.2.2 Q) := T_cI [.int x1, .int x2] rfl rfl rfl rfl
/-! CartoonHouse$Keys.drop(I)V -/
theorem k56_0 : a_bl 56 0 = [o_al 0, o_il 1, o_call 52, o_if 0 1, o_al 0, o_il 1, o_call 53, o_is 2, o_al 0, o_getR 4 0, o_il 2, o_I (J 1), o_bin 0, o_al 0, o_getR 4 0, o_il 2, o_al 0, o_getI 4 2, o_il 2, o_bin 1, o_I (J 1), o_bin 1, o_cp, o_al 0, o_getR 4 1, o_il 2, o_I (J 1), o_bin 0, o_al 0, o_getR 4 1, o_il 2, o_al 0, o_getI 4 2, o_il 2, o_bin 1, o_I (J 1), o_bin 1, o_cp, o_al 0, o_dup, o_getI 4 2, o_I (J 1), o_bin 1, o_putI 4 2, o_ft 1] := rfl
theorem k56_1 : a_bl 56 1 = [o_ret 0] := rfl
theorem k56_r : a_rt 56 = none := rfl
theorem k56_s {E : AEn} {hi : AHi} {hr : AHr} {n : Nat} {Q : ARs → Prop} (x0 : Nat) (x1 : Int32) : Sp E 56 [.ref x0, .int x1] hi hr n Q ↔ Tm E 56 (a_bl 56 0) [.ref x0, .int x1, a_mk] [] hi hr n Q := Iff.rfl
theorem K56 : (type_of% k56_0) ∧ (type_of% k56_1) ∧ (type_of% k56_r) ∧ (type_of% @k56_s) := ⟨k56_0, k56_1, k56_r, @k56_s⟩
theorem c56 {m : Nat} {is : List AOp} {ls st : List Value} {E : AEn} {hi : AHi} {hr : AHr} {n : Nat} {Q : ARs → Prop} (x0 : Nat) (x1 : Int32) : Tm E m (o_call 56 :: is) ls (.int x1 :: .ref x0 :: st) hi hr n Q ↔ (a_kd x0 = 4 ∧ x0 < n ∧ st.length ≤ 4) ∧ Sp E 56 [.ref x0, .int x1] hi hr n (fun r => Tm E m is ls (r.1.toList ++ st) r.2.1 r.2.2.1 r.2.2.2 Q) := T_cI [.int x1] rfl rfl rfl rfl
/-! CartoonHouse$Layer.<init>()V -/
theorem k57_0 : a_bl 57 0 = [o_al 0, o_obj, o_al 0, o_I (J 120), o_newa 20, o_putR 5 0, o_al 0, o_I (J 120), o_newa 20, o_putR 5 2, o_al 0, o_I (J 64), o_putI 5 4, o_ret 0] := rfl
theorem k57_r : a_rt 57 = none := rfl
theorem k57_s {E : AEn} {hi : AHi} {hr : AHr} {n : Nat} {Q : ARs → Prop} (x0 : Nat) : Sp E 57 [.ref x0] hi hr n Q ↔ Tm E 57 (a_bl 57 0) [.ref x0] [] hi hr n Q := Iff.rfl
theorem K57 : (type_of% k57_0) ∧ (type_of% k57_r) ∧ (type_of% @k57_s) := ⟨k57_0, k57_r, @k57_s⟩
theorem c57 {m : Nat} {is : List AOp} {ls st : List Value} {E : AEn} {hi : AHi} {hr : AHr} {n : Nat} {Q : ARs → Prop} (x0 : Nat) : Tm E m (o_call 57 :: is) ls (.ref x0 :: st) hi hr n Q ↔ (a_kd x0 = 5 ∧ x0 < n ∧ st.length ≤ 4) ∧ Sp E 57 [.ref x0] hi hr n (fun r => Tm E m is ls (r.1.toList ++ st) r.2.1 r.2.2.1 r.2.2.2 Q) := T_cI [] rfl rfl rfl rfl
/-! CartoonHouse$Layer.readRow(LCartoonHouse$Bytes;)I -/
theorem k58_0 : a_bl 58 0 = [o_al 1, o_call 13, o_al 0, o_I (J 0), o_putI 5 3, o_al 1, o_call 21, o_is 2, o_I (J 0), o_is 3, o_ft 1] := rfl
theorem k58_1 : a_bl 58 1 = [o_il 2, o_if 0 4, o_il 3, o_I (J 1600), o_ic 3 4, o_al 1, o_call 19, o_I (J 40), o_ic 1 2, o_al 0, o_al 1, o_call 59, o_goto 3] := rfl
theorem k58_2 : a_bl 58 2 = [o_al 0, o_al 1, o_call 60, o_ft 3] := rfl
theorem k58_3 : a_bl 58 3 = [o_al 1, o_call 20, o_is 2, o_iinc 3 (J 1), o_goto 1] := rfl
theorem k58_4 : a_bl 58 4 = [o_al 1, o_call 16, o_if 1 5, o_al 1, o_call 24, o_ret 1] := rfl
theorem k58_5 : a_bl 58 5 = [o_al 0, o_call 61, o_al 0, o_getI 5 1, o_ret 1] := rfl
theorem k58_r : a_rt 58 = (some .int) := rfl
theorem k58_s {E : AEn} {hi : AHi} {hr : AHr} {n : Nat} {Q : ARs → Prop} (x0 : Nat) (x1 : Nat) : Sp E 58 [.ref x0, .ref x1] hi hr n Q ↔ Tm E 58 (a_bl 58 0) [.ref x0, .ref x1, a_mk, a_mk] [] hi hr n Q := Iff.rfl
theorem K58 : (type_of% k58_0) ∧ (type_of% k58_2) ∧ (type_of% k58_3) ∧ (type_of% k58_4) ∧ (type_of% k58_5) ∧ (type_of% k58_r) ∧ (type_of% @k58_s) := ⟨k58_0, k58_2, k58_3, k58_4, k58_5, k58_r, @k58_s⟩
theorem c58 {m : Nat} {is : List AOp} {ls st : List Value} {E : AEn} {hi : AHi} {hr : AHr} {n : Nat} {Q : ARs → Prop} (x0 : Nat) (x1 : Nat) : Tm E m (o_call 58 :: is) ls (.ref x1 :: .ref x0 :: st) hi hr n Q ↔ (a_kd x0 = 5 ∧ x0 < n ∧ st.length ≤ 4) ∧ Sp E 58 [.ref x0, .ref x1] hi hr n (fun r => Tm E m is ls (r.1.toList ++ st) r.2.1 r.2.2.1 r.2.2.2 Q) := T_cI [.ref x1] rfl rfl rfl rfl
/-! CartoonHouse$Layer.readBracket(LCartoonHouse$Bytes;)V -/
theorem k59_0 : a_bl 59 0 = [o_al 1, o_getI 1 2, o_is 2, o_al 0, o_getI 5 3, o_is 3, o_al 1, o_I (J 40), o_call 22, o_I (J 1), o_is 4, o_I (J 0), o_is 5, o_ft 1] := rfl
theorem k59_1 : a_bl 59 1 = [o_il 4, o_if 0 4, o_il 5, o_I (J 1600), o_ic 3 4, o_al 0, o_al 1, o_call 60, o_al 1, o_call 19, o_I (J 41), o_ic 0 2, o_al 1, o_call 20, o_if 0 2, o_I (J 1), o_goto 3] := rfl
theorem k59_2 : a_bl 59 2 = [o_I (J 0), o_ft 3] := rfl
theorem k59_3 : a_bl 59 3 = [o_is 4, o_iinc 5 (J 1), o_goto 1] := rfl
theorem k59_4 : a_bl 59 4 = [o_al 1, o_I (J 41), o_call 22, o_al 1, o_I (J 42), o_call 22, o_al 1, o_I (J 1), o_I (J 20), o_call 14, o_is 5, o_al 0, o_getI 5 3, o_il 3, o_bin 1, o_is 6, o_al 0, o_getI 5 3, o_il 6, o_il 5, o_I (J 1), o_bin 1, o_bin 2, o_bin 0, o_I (J 120), o_ic 5 5, o_al 1, o_il 2, o_call 18, o_ft 5] := rfl
theorem k59_5 : a_bl 59 5 = [o_il 6, o_is 7, o_ft 6] := rfl
theorem k59_6 : a_bl 59 6 = [o_il 7, o_il 6, o_il 5, o_bin 2, o_ic 3 7, o_al 1, o_call 16, o_if 0 7, o_al 0, o_getR 5 2, o_al 0, o_getI 5 3, o_al 0, o_getR 5 2, o_al 0, o_getI 5 3, o_il 6, o_bin 1, o_iald, o_iast, o_al 0, o_dup, o_getI 5 3, o_I (J 1), o_bin 0, o_putI 5 3, o_iinc 7 (J 1), o_goto 6] := rfl
theorem k59_7 : a_bl 59 7 = [o_ret 0] := rfl
theorem k59_r : a_rt 59 = none := rfl
theorem k59_s {E : AEn} {hi : AHi} {hr : AHr} {n : Nat} {Q : ARs → Prop} (x0 : Nat) (x1 : Nat) : Sp E 59 [.ref x0, .ref x1] hi hr n Q ↔ Tm E 59 (a_bl 59 0) [.ref x0, .ref x1, a_mk, a_mk, a_mk, a_mk, a_mk, a_mk] [] hi hr n Q := Iff.rfl
theorem K59 : (type_of% k59_0) ∧ (type_of% k59_2) ∧ (type_of% k59_3) ∧ (type_of% k59_4) ∧ (type_of% k59_5) ∧ (type_of% k59_7) ∧ (type_of% k59_r) ∧ (type_of% @k59_s) := ⟨k59_0, k59_2, k59_3, k59_4, k59_5, k59_7, k59_r, @k59_s⟩
theorem c59 {m : Nat} {is : List AOp} {ls st : List Value} {E : AEn} {hi : AHi} {hr : AHr} {n : Nat} {Q : ARs → Prop} (x0 : Nat) (x1 : Nat) : Tm E m (o_call 59 :: is) ls (.ref x1 :: .ref x0 :: st) hi hr n Q ↔ (a_kd x0 = 5 ∧ x0 < n ∧ st.length ≤ 4) ∧ Sp E 59 [.ref x0, .ref x1] hi hr n (fun r => Tm E m is ls (r.1.toList ++ st) r.2.1 r.2.2.1 r.2.2.2 Q) := T_cI [.ref x1] rfl rfl rfl rfl
