/-! Copies; INK of the class -/
def cpA (h : AHi) (a : Nat) (i : Int) (d : Nat) (j c : Int) : AHi := va_up h d (va_cpy (h a) (h d) i.toNat j.toNat c.toNat)
section CP
variable {E : AEn} {m : Nat} {is : List AOp} {ls st : List Value} {hi h h' : AHi} {hr : AHr} {n : Nat} {Q : ARs → Prop} {f : Int → Int}
theorem cp_o {a b d : Nat} {i j c : Int} (e : b ≠ d) : cpA h a i d j c b = h b := va_up_ne _ _ e
theorem cp_go {a b d : Nat} {i j c q : Int} (e : b ≠ d) : gA (cpA h a i d j c) b q = gA h b q := by unfold gA; rw [cp_o e]
theorem cp_g {a d : Nat} {i j c q : Int} (h1 : 0 ≤ i) (h2 : 0 ≤ j) (h3 : 0 ≤ c) (h4 : 0 ≤ q) : gA (cpA h a i d j c) d q = if j ≤ q ∧ q < j + c then gA h a (i + (q - j)) else gA h d q := by
  unfold gA cpA
  rw [va_up_self]
  unfold va_cpy
  by_cases e : j ≤ q ∧ q < j + c
  · rw [if_pos (by omega), if_pos e, show i.toNat + (q.toNat - j.toNat) = (i + (q - j)).toNat by omega]
  · rw [if_neg (by omega), if_neg e]
theorem cp_e {S : Nat → Nat → Prop} {a d : Nat} {i j c : Int} (e : Ef S h h') (hs : ∀ k, S d k) : Ef S h (cpA h' a i d j c) := fun x y q => by
  by_cases g : x = d
  · rw [g] at q
    exact absurd (hs y) q
  · rw [cp_o g]
    exact e x y q
theorem J_cp {a d : Nat} {i j c : Int} (hh : (43 ≤ a ∧ 0 ≤ i ∧ 0 ≤ j ∧ 0 ≤ c) ∧ (i < 60000 ∧ j < 60000 ∧ c < 60000) ∧ i + c ≤ a_ln E a ∧ j + c ≤ a_ln E d) : Tm E m (o_cp :: is) ls (.int (J c) :: .int (J j) :: .ref d :: .int (J i) :: .ref a :: st) hi hr n Q ↔ (((a_kd a = 20 ∨ a_kd a = 21) ∧ a_kd d = a_kd a ∧ a < n ∧ d < n ∧ 43 ≤ a ∧ 43 ≤ d) ∧ st.length ≤ 4) ∧ Tm E m is ls st (cpA hi a i d j c) hr n Q := by
  obtain ⟨⟨h1, h2, h3, h4⟩, ⟨h5, h6, h7⟩, h8, h9⟩ := hh
  have e0 : (0 : Int32) = J 0 := rfl
  rw [T_cp, e0, J_lt (by omega) (by omega) (by decide) (by decide), J_lt (by omega) (by omega) (by decide) (by decide), J_lt (by omega) (by omega) (by decide) (by decide), J_clamp (by omega) (by omega), J_clamp (by omega) (by omega), J_clamp (by omega) (by omega)]
  have e1 : a_cpy E hi a i.toNat d j.toNat c.toNat = cpA hi a i d j c := by
    unfold a_cpy cpA
    rw [show rI E hi a = hi a from funext fun k => rI_run h1]
  rw [e1]
  exact ⟨fun q => ⟨⟨q.1.1, q.1.2.2.2.2⟩, q.2⟩, fun q => ⟨⟨q.1.1, ⟨by omega, by omega, by omega⟩, by omega, by omega, q.1.2⟩, q.2⟩⟩
theorem w356 (hn : 775 ≤ n) {g : Nat} {v : Int} (g1 : a_kd g = 20) (g2 : a_ln E g = 1536) (g3 : 43 ≤ g ∧ g < 775) (k : ∀ h', PA h' g (fun _ => v) → Ef (fun a _ => a = g) h h' → Q (none, h', hr, n)) : Sp E 356 [.ref g, .int (J v)] h hr n Q := by
  have e0 : ((1536 : Nat) : Int) = 1536 := rfl
  simp +decide (maxSteps := 4000000) (disch := omega) only [k356_0, k356_2, k356_r, k356_s, T_I, F_is2i, F_is2r, F_is2m, F_al0, J_alen, F_is3i, F_is3r, F_is3m, T_ft, F_il2, F_il3, T_icge, F_il1, T_iast, F_inc2i, F_inc2r, F_inc2m, T_goto, T_ret, g1, g2, e0, TK, lt_run hn, le43, Int.le_refl, Int.lt_irrefl, Option.some.injEq, exists_eq_left', true_and, and_true, if_true, if_false, decide_eq_false_iff_not, decide_eq_true_eq, Nat.reduceAdd, Nat.reduceLeDiff, Nat.reduceLT, Int.reduceAdd, Int.reduceSub, Int.reduceMul, Int.reduceNeg, not_true_eq_false, not_false_eq_true]
  refine T_for (σ := Unit) (fun i _ => [.ref g, .int (J v), .int (J i), .int (J 1536)]) (fun i _ h' => Ef (fun a _ => a = g) h h' ∧ ∀ q, 0 ≤ q → q < i → gA h' g q = J v) 0 1536 ?_ ?_ 0 () h (by omega) (by omega) ⟨Ef.refl, fun q _ _ => by omega⟩
  · rintro i _ h1 i0 i1 ⟨e1, c1⟩ ih
    rw [k356_1]
    simp +decide (maxSteps := 4000000) (disch := omega) only [k356_0, k356_2, k356_r, k356_s, T_I, F_is2i, F_is2r, F_is2m, F_al0, J_alen, F_is3i, F_is3r, F_is3m, T_ft, F_il2, F_il3, T_icge, F_il1, T_iast, F_inc2i, F_inc2r, F_inc2m, T_goto, T_ret, g1, g2, show ¬ 1536 ≤ i by omega, TK, lt_run hn, le43, Int.le_refl, Int.lt_irrefl, Option.some.injEq, exists_eq_left', true_and, and_true, if_true, if_false, decide_eq_false_iff_not, decide_eq_true_eq, Nat.reduceAdd, Nat.reduceLeDiff, Nat.reduceLT, Int.reduceAdd, Int.reduceSub, Int.reduceMul, Int.reduceNeg, not_true_eq_false, not_false_eq_true]
    refine ih () _ ⟨e1.sA rfl, fun q q0 q1 => ?_⟩
    by_cases e : q = i
    · rw [e, gs_s]
    · rw [gs_k i0 q0 e]
      exact c1 q q0 (by omega)
  · rintro _ h1 ⟨e1, c1⟩
    rw [k356_1]
    simp +decide (maxSteps := 4000000) (disch := omega) only [k356_0, k356_2, k356_r, k356_s, T_I, F_is2i, F_is2r, F_is2m, F_al0, J_alen, F_is3i, F_is3r, F_is3m, T_ft, F_il2, F_il3, T_icge, F_il1, T_iast, F_inc2i, F_inc2r, F_inc2m, T_goto, T_ret, TK, lt_run hn, le43, Int.le_refl, Int.lt_irrefl, Option.some.injEq, exists_eq_left', true_and, and_true, if_true, if_false, decide_eq_false_iff_not, decide_eq_true_eq, Nat.reduceAdd, Nat.reduceLeDiff, Nat.reduceLT, Int.reduceAdd, Int.reduceSub, Int.reduceMul, Int.reduceNeg, not_true_eq_false, not_false_eq_true]
    exact k h1 (fun q q0 q1 => c1 q q0 q1) e1
/-- ENDS that the class holds -/
def EC (h : AHi) (l : List (Int × Int)) : Prop := h 78 8 = J l.length ∧ ∀ (i : Nat) (e : Int × Int), l[i]? = some e → gA h 83 i = J e.1 ∧ gA h 84 i = J e.2
theorem gE_a {l : List (Int × Int)} {st st' : Int × Int} {i : Nat} (h : (l ++ [st])[i]? = some st') (e : i < l.length) : l[i]? = some st' := by rw [List.getElem?_append_left e] at h; exact h
theorem gE_b {l : List (Int × Int)} {st st' : Int × Int} {i : Nat} (h : (l ++ [st])[i]? = some st') (e : ¬ i < l.length) : i = l.length ∧ st' = st := by
  rw [List.getElem?_append_right (by omega)] at h
  cases hi : i - l.length with
  | zero =>
    rw [hi] at h
    have : some st = some st' := h
    injection this with this
    exact ⟨by omega, this.symm⟩
  | succ j =>
    rw [hi] at h
    cases h
/-- what the class's ink changes -/
def Sie (a k : Nat) : Prop := (a = 78 ∧ k = 8) ∨ a = 83 ∨ a = 84
def Sik (a k : Nat) : Prop := a = 79 ∨ Sie a k
theorem SB.r2 {a : Nat} (S : SB a) : a + 2 ≤ 77 ∨ 164 ≤ a := by
  obtain ⟨b, k, D, hk, rfl⟩ := S
  rcases D with rfl | ⟨d, hd, rfl⟩ <;> omega
theorem w33 (F : FH hr) (hn : 775 ≤ n) {a : Nat} (A : SB a) {s : Stk} (C : SC h a s) (hp : s.2.1 ≤ 10) {q : Int} (hq : 0 ≤ q ∧ q < s.2.1) {l : List (Int × Int)} (L : EC h l) (hl : l.length < 16) (k : ∀ h', EC h' (l ++ [(s.2.2.1 q, s.2.2.2 q)]) → Ef Sie h h' → Q (none, h', hr, n)) : Sp E 33 [.ref 78, .ref a, .int (J q)] h hr n Q := by
  have x1 := A.x E F
  have x2 := A.r2
  have x4 := A.r
  have c := C.2 q hq.1 hq.2
  have l1 := L.1
  have e0 : ((16 : Nat) : Int) = 16 := rfl
  have l2 : sA h 83 (l.length : Int) (J (s.2.2.1 q)) 78 8 = J l.length := by rw [sA_o (by decide)]; exact l1
  have l3 : sA (sA h 83 (l.length : Int) (J (s.2.2.1 q))) 84 (l.length : Int) (J (s.2.2.2 q)) 78 8 = J l.length := by rw [sA_o (by decide)]; exact l2
  have c2 : gA (sA h 83 (l.length : Int) (J (s.2.2.1 q))) (a + 2) q = J (s.2.2.2 q) := by
    by_cases e : a + 2 = 83
    · omega
    · rw [gs_o e]
      exact c.2
  simp +decide (maxSteps := 4000000) (disch := omega) only [k33_0, k33_1, k33_r, k33_s, F_al0, T_getI, T_getR, J_alen, T_icge, F_al1, F_il2, X_iald, T_iast, T_dupI, T_dupR, T_I, T_add, T_putI, T_putZ, T_ft, T_ret, FX F, x1, c.1, c2, l1, l2, l3, ln_83, ln_84, e0, show ¬ (16 : Int) ≤ l.length by omega, TK, lt_run hn, le43, Int.le_refl, Int.lt_irrefl, Option.some.injEq, exists_eq_left', true_and, and_true, if_true, if_false, decide_eq_false_iff_not, decide_eq_true_eq, Nat.reduceAdd, Nat.reduceLeDiff, Nat.reduceLT, Int.reduceAdd, Int.reduceSub, Int.reduceMul, Int.reduceNeg, not_true_eq_false, not_false_eq_true]
  refine k _ ⟨?_, fun i e he => ?_⟩ (Ef.hI (Ef.sA (Ef.sA Ef.refl (Or.inr (Or.inl rfl))) (Or.inr (Or.inr rfl))) (Or.inl ⟨rfl, rfl⟩))
  · rw [hI_s, List.length_append]
    rfl
  · rw [gA_o (by decide), gA_o (by decide), gs_o (by decide)]
    by_cases g : i < l.length
    · have := L.2 i e (gE_a he g)
      rw [gs_k (by omega) (by omega) (by omega), gs_k (by omega) (by omega) (by omega), gs_o (by decide)]
      exact this
    · obtain ⟨rfl, rfl⟩ := gE_b he g
      rw [gs_s, gs_s]
      exact ⟨rfl, rfl⟩
theorem EC.ef {S : Nat → Nat → Prop} {l : List (Int × Int)} (L : EC h l) (e : Ef S h h') (hs : ∀ a k, a = 78 ∨ a = 83 ∨ a = 84 → ¬ S a k) : EC h' l := by
  refine ⟨?_, fun i q hq => ?_⟩
  · rw [e 78 8 (hs _ _ (Or.inl rfl))]
    exact L.1
  · rw [e.g (hs _ _ (Or.inr (Or.inl rfl))), e.g (hs _ _ (Or.inr (Or.inr rfl)))]
    exact L.2 i q hq
theorem w31 (F : FH hr) (hn : 775 ≤ n) {b : Nat} (B : DB b) {ρ : Nat → Nat} (P : PS hr b ρ) {D : Drw} (R : DRr D) (C : DC h b ρ D)
    (k : ∀ h', PA h' 79 (inkD D D.1.toNat) → EC h' (endD D D.1.toNat) → Ef Sik h h' → Q (none, h', hr, n)) : Sp E 31 [.ref 78, .ref b] h hr n Q := by
  have x1 := B.x E F
  have x2 := B.r
  have xb : b = 49 ∨ 159 ≤ b := by rcases B with q | ⟨d, q1, q2⟩ <;> omega
  have r1 := R.1
  have fr : ∀ {h'}, Ef Sik h h' → h' b 1 = J D.1 ∧ ∀ i, 0 ≤ i → i < D.1 → SC h' (ρ i.toNat) (D.2 i) := fun e => by
    refine ⟨?_, fun i i0 i1 => ?_⟩
    · rw [e b 1 (fun q => by unfold Sik Sie at q; omega)]
      exact C.1
    · have pr := (P.sb B (s := i.toNat) (by omega)).r2
      exact (C.2 i i0 i1).ef e (fun x k q1 q2 q => by unfold Sik Sie at q; omega)
  simp +decide (maxSteps := 4000000) (disch := omega) only [k31_0, k31_3, k31_4, k31_5, k31_r, k31_s, F_al0, T_getR, T_I, T_putI, T_putZ, F_is2i, F_is2r, F_is2m, T_ft, F_il2, F_al1, T_getI, T_icge, X_aald, F_as3i, F_as3r, F_as3m, F_is4i, F_is4r, F_is4m, F_il4, F_al3, T_sub, X_iald, T_add, F_inc4i, F_inc4r, F_inc4m, T_goto, J_ifle, J_ifne, F_inc2i, F_inc2r, F_inc2m, T_ret, c32, c33, c119, c356, ↓s119, FX F, TK, lt_run hn, le43, Int.le_refl, Int.lt_irrefl, Option.some.injEq, exists_eq_left', true_and, and_true, if_true, if_false, decide_eq_false_iff_not, decide_eq_true_eq, Nat.reduceAdd, Nat.reduceLeDiff, Nat.reduceLT, Int.reduceAdd, Int.reduceSub, Int.reduceMul, Int.reduceNeg, not_true_eq_false, not_false_eq_true]
  refine w356 hn rfl rfl (by decide) (fun h1 P1 e1 => ?_)
  simp +decide (maxSteps := 4000000) (disch := omega) only [k31_0, k31_3, k31_4, k31_5, k31_r, k31_s, F_al0, T_getR, T_I, T_putI, T_putZ, F_is2i, F_is2r, F_is2m, T_ft, F_il2, F_al1, T_getI, T_icge, X_aald, F_as3i, F_as3r, F_as3m, F_is4i, F_is4r, F_is4m, F_il4, F_al3, T_sub, X_iald, T_add, F_inc4i, F_inc4r, F_inc4m, T_goto, J_ifle, J_ifne, F_inc2i, F_inc2r, F_inc2m, T_ret, c32, c33, c119, c356, ↓s119, FX F, TK, lt_run hn, le43, Int.le_refl, Int.lt_irrefl, Option.some.injEq, exists_eq_left', true_and, and_true, if_true, if_false, decide_eq_false_iff_not, decide_eq_true_eq, Nat.reduceAdd, Nat.reduceLeDiff, Nat.reduceLT, Int.reduceAdd, Int.reduceSub, Int.reduceMul, Int.reduceNeg, not_true_eq_false, not_false_eq_true]
  have e1' : Ef Sik h (hI h1 78 8 (J 0)) := Ef.hI (e1.mono fun x k q => Or.inl q) (Or.inr (Or.inl ⟨rfl, rfl⟩))
  refine T_for (σ := Value × Value) (fun i v => [.ref 78, .ref b, .int (J i), v.1, v.2]) (fun i v h' => Ef Sik h h' ∧ PA h' 79 (inkD D i.toNat) ∧ EC h' (endD D i.toNat)) 0 D.1 ?_ ?_ 0 (a_mk, a_mk) _ (by omega) (by omega) ⟨e1', P1.ef (S := fun x k => x = 78) (Ef.refl.hI rfl) (fun k => by decide), hI_s, fun i q hq => by cases hq⟩
  · rintro i ⟨v3, v4⟩ h2 i0 i1 ⟨e2, P2, L2⟩ ih
    dsimp only
    obtain ⟨c1, c2⟩ := fr e2
    have S2 := c2 i i0 i1
    have p1 := (P.1 i.toNat (by omega)).1
    have A := P.sb B (s := i.toNat) (by omega)
    have A2 := A.r2
    have A3 := A.r
    have x3 := A.x E F
    have Ri := R.2 i
    have r2 := Ri.2.1
    have is := inkD_s (D := D) i0
    have el := (endD_l R i.toNat).1
    rw [k31_1]
    simp +decide (maxSteps := 4000000) (disch := omega) only [k31_0, k31_3, k31_4, k31_5, k31_r, k31_s, F_al0, T_getR, T_I, T_putI, T_putZ, F_is2i, F_is2r, F_is2m, T_ft, F_il2, F_al1, T_getI, T_icge, X_aald, F_as3i, F_as3r, F_as3m, F_is4i, F_is4r, F_is4m, F_il4, F_al3, T_sub, X_iald, T_add, F_inc4i, F_inc4r, F_inc4m, T_goto, J_ifle, J_ifne, F_inc2i, F_inc2r, F_inc2m, T_ret, c32, c33, c119, c356, ↓s119, x1, c1, p1, x3, show ¬ D.1 ≤ i by omega, TK, lt_run hn, le43, Int.le_refl, Int.lt_irrefl, Option.some.injEq, exists_eq_left', true_and, and_true, if_true, if_false, decide_eq_false_iff_not, decide_eq_true_eq, Nat.reduceAdd, Nat.reduceLeDiff, Nat.reduceLT, Int.reduceAdd, Int.reduceSub, Int.reduceMul, Int.reduceNeg, not_true_eq_false, not_false_eq_true]
    refine T_for (σ := Unit) (fun q _ => [.ref 78, .ref b, .int (J i), .ref (ρ i.toNat), .int (J q)]) (fun q _ h' => Ef (fun a _ => a = 79) h2 h' ∧ PA h' 79 (inkS (inkD D i.toNat) (D.2 i) q.toNat)) 0 ((D.2 i).2.1 - 1) ?_ ?_ 0 () h2 (by omega) (by omega) ⟨Ef.refl, P2⟩
    · rintro q _ h3 q0 q1 ⟨e3, P3⟩ ih2
      have S3 := S2.ef e3 (fun x k q1 q2 q => by omega)
      have d0 := S3.1.1
      have d1 := S3.1.2
      have d2 := S3.2 q q0 (by omega)
      have d3 := S3.2 (q + 1) (by omega) (by omega)
      rw [k31_2]
      simp +decide (maxSteps := 4000000) (disch := omega) only [k31_0, k31_3, k31_4, k31_5, k31_r, k31_s, F_al0, T_getR, T_I, T_putI, T_putZ, F_is2i, F_is2r, F_is2m, T_ft, F_il2, F_al1, T_getI, T_icge, X_aald, F_as3i, F_as3r, F_as3m, F_is4i, F_is4r, F_is4m, F_il4, F_al3, T_sub, X_iald, T_add, F_inc4i, F_inc4r, F_inc4m, T_goto, J_ifle, J_ifne, F_inc2i, F_inc2r, F_inc2m, T_ret, c32, c33, c119, c356, ↓s119, FX F, x3, d0, d1, d2, d3, show ¬ (D.2 i).2.1 - 1 ≤ q by omega, TK, lt_run hn, le43, Int.le_refl, Int.lt_irrefl, Option.some.injEq, exists_eq_left', true_and, and_true, if_true, if_false, decide_eq_false_iff_not, decide_eq_true_eq, Nat.reduceAdd, Nat.reduceLeDiff, Nat.reduceLT, Int.reduceAdd, Int.reduceSub, Int.reduceMul, Int.reduceNeg, not_true_eq_false, not_false_eq_true]
      refine w32 hn rfl rfl (by decide) (Ri.2.2 q) (Ri.2.2 (q + 1)) P3 (fun h4 P4 e4 => ?_)
      simp +decide (maxSteps := 4000000) (disch := omega) only [k31_0, k31_3, k31_4, k31_5, k31_r, k31_s, F_al0, T_getR, T_I, T_putI, T_putZ, F_is2i, F_is2r, F_is2m, T_ft, F_il2, F_al1, T_getI, T_icge, X_aald, F_as3i, F_as3r, F_as3m, F_is4i, F_is4r, F_is4m, F_il4, F_al3, T_sub, X_iald, T_add, F_inc4i, F_inc4r, F_inc4m, T_goto, J_ifle, J_ifne, F_inc2i, F_inc2r, F_inc2m, T_ret, c32, c33, c119, c356, ↓s119, TK, lt_run hn, le43, Int.le_refl, Int.lt_irrefl, Option.some.injEq, exists_eq_left', true_and, and_true, if_true, if_false, decide_eq_false_iff_not, decide_eq_true_eq, Nat.reduceAdd, Nat.reduceLeDiff, Nat.reduceLT, Int.reduceAdd, Int.reduceSub, Int.reduceMul, Int.reduceNeg, not_true_eq_false, not_false_eq_true]
      refine ih2 () h4 ⟨e3.trans e4, ?_⟩
      rw [inkS_s q0]
      exact P4
    · rintro _ h3 ⟨e3, P3⟩
      rw [← is.1] at P3
      have S3 := S2.ef e3 (fun x k q1 q2 q => by omega)
      have L3 := L2.ef e3 (fun a k q q' => by omega)
      have d1 := S3.1.2
      have d2 := S3.2 0 (by omega) (by omega)
      have d3 := S3.2 ((D.2 i).2.1 - 1) (by omega) (by omega)
      have e3' : Ef Sik h h3 := e2.trans (e3.mono fun x k q => Or.inl q)
      by_cases g : (D.2 i).2.2.1 0 = (D.2 i).2.2.1 ((D.2 i).2.1 - 1) ∧ (D.2 i).2.2.2 0 = (D.2 i).2.2.2 ((D.2 i).2.1 - 1)
      · have es : endD D (i + 1).toNat = endD D i.toNat := by
          rw [is.2]
          unfold endS
          rw [if_pos g, List.append_nil]
        rw [k31_2]
        simp +decide (maxSteps := 4000000) (disch := omega) only [k31_0, k31_3, k31_4, k31_5, k31_r, k31_s, F_al0, T_getR, T_I, T_putI, T_putZ, F_is2i, F_is2r, F_is2m, T_ft, F_il2, F_al1, T_getI, T_icge, X_aald, F_as3i, F_as3r, F_as3m, F_is4i, F_is4r, F_is4m, F_il4, F_al3, T_sub, X_iald, T_add, F_inc4i, F_inc4r, F_inc4m, T_goto, J_ifle, J_ifne, F_inc2i, F_inc2r, F_inc2m, T_ret, c32, c33, c119, c356, x3, d1, ↓s119 F hn A Ri (by omega) (by omega) d2 d3, g, show ¬ (D.2 i).2.1 ≤ 0 by omega, TK, lt_run hn, le43, Int.le_refl, Int.lt_irrefl, Option.some.injEq, exists_eq_left', true_and, and_true, if_true, if_false, decide_eq_false_iff_not, decide_eq_true_eq, Nat.reduceAdd, Nat.reduceLeDiff, Nat.reduceLT, Int.reduceAdd, Int.reduceSub, Int.reduceMul, Int.reduceNeg, not_true_eq_false, not_false_eq_true]
        refine ih (_, _) h3 ⟨e3', P3, ?_⟩
        rw [es]
        exact L3
      · have es : endD D (i + 1).toNat = endD D i.toNat ++ [((D.2 i).2.2.1 0, (D.2 i).2.2.2 0)] ++ [((D.2 i).2.2.1 ((D.2 i).2.1 - 1), (D.2 i).2.2.2 ((D.2 i).2.1 - 1))] := by
          rw [is.2]
          unfold endS
          rw [if_neg g, List.append_assoc]
          rfl
        rw [k31_2]
        simp +decide (maxSteps := 4000000) (disch := omega) only [k31_0, k31_3, k31_4, k31_5, k31_r, k31_s, F_al0, T_getR, T_I, T_putI, T_putZ, F_is2i, F_is2r, F_is2m, T_ft, F_il2, F_al1, T_getI, T_icge, X_aald, F_as3i, F_as3r, F_as3m, F_is4i, F_is4r, F_is4m, F_il4, F_al3, T_sub, X_iald, T_add, F_inc4i, F_inc4r, F_inc4m, T_goto, J_ifle, J_ifne, F_inc2i, F_inc2r, F_inc2m, T_ret, c32, c33, c119, c356, x3, d1, ↓s119 F hn A Ri (by omega) (by omega) d2 d3, g, show ¬ (D.2 i).2.1 ≤ 0 by omega, TK, lt_run hn, le43, Int.le_refl, Int.lt_irrefl, Option.some.injEq, exists_eq_left', true_and, and_true, if_true, if_false, decide_eq_false_iff_not, decide_eq_true_eq, Nat.reduceAdd, Nat.reduceLeDiff, Nat.reduceLT, Int.reduceAdd, Int.reduceSub, Int.reduceMul, Int.reduceNeg, not_true_eq_false, not_false_eq_true]
        refine w33 F hn A S3 r2.2 (by omega) L3 (by omega) (fun h4 L4 e4 => ?_)
        have S4 := S3.ef e4 (fun x k q1 q2 q => by unfold Sie at q; omega)
        have d4 := S4.1.2
        simp +decide (maxSteps := 4000000) (disch := omega) only [k31_0, k31_3, k31_4, k31_5, k31_r, k31_s, F_al0, T_getR, T_I, T_putI, T_putZ, F_is2i, F_is2r, F_is2m, T_ft, F_il2, F_al1, T_getI, T_icge, X_aald, F_as3i, F_as3r, F_as3m, F_is4i, F_is4r, F_is4m, F_il4, F_al3, T_sub, X_iald, T_add, F_inc4i, F_inc4r, F_inc4m, T_goto, J_ifle, J_ifne, F_inc2i, F_inc2r, F_inc2m, T_ret, c32, c33, c119, c356, ↓s119, x3, d4, TK, lt_run hn, le43, Int.le_refl, Int.lt_irrefl, Option.some.injEq, exists_eq_left', true_and, and_true, if_true, if_false, decide_eq_false_iff_not, decide_eq_true_eq, Nat.reduceAdd, Nat.reduceLeDiff, Nat.reduceLT, Int.reduceAdd, Int.reduceSub, Int.reduceMul, Int.reduceNeg, not_true_eq_false, not_false_eq_true]
        refine w33 F hn A S4 r2.2 (by omega) L4 (by rw [List.length_append]; show (endD D i.toNat).length + 1 < 16; omega) (fun h5 L5 e5 => ?_)
        simp +decide (maxSteps := 4000000) (disch := omega) only [k31_0, k31_3, k31_4, k31_5, k31_r, k31_s, F_al0, T_getR, T_I, T_putI, T_putZ, F_is2i, F_is2r, F_is2m, T_ft, F_il2, F_al1, T_getI, T_icge, X_aald, F_as3i, F_as3r, F_as3m, F_is4i, F_is4r, F_is4m, F_il4, F_al3, T_sub, X_iald, T_add, F_inc4i, F_inc4r, F_inc4m, T_goto, J_ifle, J_ifne, F_inc2i, F_inc2r, F_inc2m, T_ret, c32, c33, c119, c356, ↓s119, TK, lt_run hn, le43, Int.le_refl, Int.lt_irrefl, Option.some.injEq, exists_eq_left', true_and, and_true, if_true, if_false, decide_eq_false_iff_not, decide_eq_true_eq, Nat.reduceAdd, Nat.reduceLeDiff, Nat.reduceLT, Int.reduceAdd, Int.reduceSub, Int.reduceMul, Int.reduceNeg, not_true_eq_false, not_false_eq_true]
        refine ih (_, _) h5 ⟨e3'.trans (Ef.trans (e4.mono fun x k q => Or.inr q) (e5.mono fun x k q => Or.inr q)), (P3.ef e4 (fun k q => by unfold Sie at q; omega)).ef e5 (fun k q => by unfold Sie at q; omega), ?_⟩
        rw [es]
        exact L5
  · rintro ⟨v3, v4⟩ h2 ⟨e2, P2, L2⟩
    dsimp only
    obtain ⟨c1, c2⟩ := fr e2
    rw [k31_1]
    simp +decide (maxSteps := 4000000) (disch := omega) only [k31_0, k31_3, k31_4, k31_5, k31_r, k31_s, F_al0, T_getR, T_I, T_putI, T_putZ, F_is2i, F_is2r, F_is2m, T_ft, F_il2, F_al1, T_getI, T_icge, X_aald, F_as3i, F_as3r, F_as3m, F_is4i, F_is4r, F_is4m, F_il4, F_al3, T_sub, X_iald, T_add, F_inc4i, F_inc4r, F_inc4m, T_goto, J_ifle, J_ifne, F_inc2i, F_inc2r, F_inc2m, T_ret, c32, c33, c119, c356, ↓s119, x1, c1, TK, lt_run hn, le43, Int.le_refl, Int.lt_irrefl, Option.some.injEq, exists_eq_left', true_and, and_true, if_true, if_false, decide_eq_false_iff_not, decide_eq_true_eq, Nat.reduceAdd, Nat.reduceLeDiff, Nat.reduceLT, Int.reduceAdd, Int.reduceSub, Int.reduceMul, Int.reduceNeg, not_true_eq_false, not_false_eq_true]
    exact k h2 P2 L2 e2
end CP
