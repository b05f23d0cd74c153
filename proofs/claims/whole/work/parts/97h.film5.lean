/-! film: the call -/
noncomputable def flP (e : PEn) (nd fr k : Int) : Pic := if k = 0 then fun _ => -1 else PN e (fr + k - 1) nd
noncomputable def flL (e : PEn) (nd fr : Int) : Nat → List Int
  | 0 => []
  | k + 1 => flL e nd fr k ++ enc (PN e (fr + k) nd) (flP e nd fr k) 0 1536
section FH1
variable {E : AEn} {h h' : AHi} {hr : AHr} {n : Nat} {Q : ARs → Prop} {e : PEn} {nd fr : Int}
theorem flL_s {k : Int} (h : 0 ≤ k) : flL e nd fr (k + 1).toNat = flL e nd fr k.toNat ++ enc (PN e (fr + k) nd) (flP e nd fr k) 0 1536 := by
  rw [show (k + 1).toNat = k.toNat + 1 by omega]
  show _ ++ enc (PN e (fr + (k.toNat : Int)) nd) (flP e nd fr (k.toNat : Int)) 0 1536 = _
  rw [Int.toNat_of_nonneg h]
theorem flL_l : ∀ k : Nat, ((flL e nd fr k).length : Int) ≤ 6158 * k := by
  intro k
  induction k with
  | zero => exact Int.le_refl _
  | succ k ih =>
    show ((flL e nd fr k ++ enc (PN e (fr + k) nd) (flP e nd fr k) 0 1536).length : Int) ≤ _
    rw [la2]
    have := enc_6 (PN e (fr + k) nd) (flP e nd fr k) 1536
    omega
theorem pxB_b {v : Int} (hv : -1 ≤ v ∧ v ≤ 16777215) : ∀ x ∈ pxB v, 0 ≤ x ∧ x ≤ 255 := by
  intro x hx
  unfold pxB at hx
  split at hx
  · rw [List.mem_singleton] at hx
    omega
  · simp only [List.mem_cons, List.not_mem_nil, or_false] at hx
    omega
theorem pxl_b {A : Pic} (R : pcR A) {p : Int} (hp : 0 ≤ p) : ∀ j : Nat, p + j ≤ 1536 → ∀ x ∈ pxl A p j, 0 ≤ x ∧ x ≤ 255 := by
  intro j
  induction j with
  | zero => intro _ x hx; cases hx
  | succ j ih =>
    intro hj x hx
    rcases List.mem_append.mp hx with q | q
    · exact ih (by omega) x q
    · exact pxB_b (R (p + j) (by omega) (by omega)) x q
theorem enc_b {A B : Pic} (R : pcR A) : ∀ (k : Nat) (p : Int), 0 ≤ p → p ≤ 1536 → ∀ x ∈ enc A B p k, 0 ≤ x ∧ x ≤ 255 := by
  intro k
  induction k with
  | zero => intro p _ _ x hx; cases hx
  | succ k ih =>
    intro p p0 p1 x hx
    have e : enc A B p (k + 1) = if p < 1536 then [rnn A B true p 255, rnn A B false (p + rnn A B true p 255) 255] ++ pxl A (p + rnn A B true p 255) (rnn A B false (p + rnn A B true p 255) 255).toNat ++ enc A B (p + rnn A B true p 255 + rnn A B false (p + rnn A B true p 255) 255) k else [] := rfl
    rw [e] at hx
    by_cases g : p < 1536
    · rw [if_pos g] at hx
      have rs := rnn_r (A := A) (B := B) true 255 p p1
      have ro := rnn_r (A := A) (B := B) false 255 (p + rnn A B true p 255) rs.2.2
      rcases List.mem_append.mp hx with q | q
      · rcases List.mem_append.mp q with w | w
        · simp only [List.mem_cons, List.not_mem_nil, or_false] at w
          omega
        · exact pxl_b R (by omega) _ (by omega) x w
      · exact ih _ (by omega) (by omega) x q
    · rw [if_neg g] at hx
      cases hx
theorem flL_b (hR : ∀ k : Nat, pcR (PN e (fr + k) nd)) : ∀ k : Nat, ∀ x ∈ flL e nd fr k, 0 ≤ x ∧ x ≤ 255 := by
  intro k
  induction k with
  | zero => intro x hx; cases hx
  | succ k ih =>
    intro x hx
    rcases List.mem_append.mp hx with q | q
    · exact ih x q
    · exact enc_b (hR k) 1536 0 (by decide) (by decide) x q
/-- what a film changes in the class -/
def Sfl (x k : Nat) : Prop := Sps x k ∨ Sw 775 x k ∨ x = 141 ∨ (144 ≤ x ∧ x ≤ 151) ∨ (x = 113 ∧ (k = 10 ∨ k = 11))
theorem Sfl_0 {x k : Nat} (q : Sfl x k) : Zs x k := by
  unfold Sfl at q
  rcases q with q | q | rfl | q | ⟨rfl, rfl | rfl⟩
  · exact Or.inl (Sps_0 q)
  · unfold Sw at q
    rcases q with ⟨rfl, rfl⟩ | rfl
    · exact Or.inr (Or.inl rfl)
    · exact Or.inr (Or.inl rfl)
  · exact Or.inl rfl
  · refine Or.inr (Or.inr ?_)
    have := sys144 (i := x - 144) (k := k) (by omega)
    rw [show 144 + (x - 144) = x by omega] at this
    exact this
  · exact Or.inr (Or.inr rfl)
  · exact Or.inr (Or.inr rfl)
/-- what a film changes in the reference -/
def Sfm (x k : Nat) : Prop := Ssh x k ∨ Sv x k ∨ x = 768 ∨ x = 769 ∨ (x = 704 ∧ (k = 87 ∨ k = 88))
theorem Sfm_0 {x k : Nat} (q : Sfm x k) : Zs x k := by
  unfold Sfm at q
  rcases q with q | q | rfl | rfl | ⟨rfl, rfl | rfl⟩
  · exact Or.inl (Ssh_0 q)
  · unfold Sv at q
    rcases q with ⟨rfl, rfl⟩ | rfl
    · exact Or.inr (Or.inl rfl)
    · exact Or.inr (Or.inl rfl)
  · exact Or.inr (Or.inr rfl)
  · exact Or.inl rfl
  · exact Or.inr (Or.inr rfl)
  · exact Or.inr (Or.inr rfl)
theorem flP_r (W : PW h hr e) (hd : 0 ≤ nd ∧ nd < e.m) (k : Int) : pcR (flP e nd fr k) := by
  unfold flP
  split
  · exact fun q _ _ => by dsimp only; omega
  · exact PN_r W _ hd.1 hd.2
theorem w203 (F : FH hr) (N : NN hr n) (W : PW h hr e) (hd : 0 ≤ nd ∧ nd < e.m) {to : Int} (hf : 0 ≤ fr ∧ fr ≤ 119) (ht : 0 ≤ to ∧ to ≤ 119) (hT : 0 ≤ to - fr ∧ to - fr ≤ 7)
    (k : ∀ h' hr', Ef Sfl h h' → FH hr' → (∀ a k, a ≠ 46 → hr' a k = hr a k) → NN hr' 776 → PW h' hr' e → OC h' 775 (flL e nd fr (to - fr + 1).toNat) → (h' 113 10 = J (to - fr + 1) ∧ h' 113 11 = J ((flL e nd fr (to - fr + 1).toNat).length : Int)) → (∀ j, 0 ≤ j → j < to - fr + 1 → PA h' (144 + j.toNat) (PN e (fr + j) nd)) → Q (some (.int (J ((flL e nd fr (to - fr + 1).toNat).length : Int))), h', hr', 776)) : Sp E 203 [.ref 43, .int (J nd), .int (J fr), .int (J to)] h hr n Q := by
  have hn := N.h
  have m1 := W.2.2.2.2.2.2.2.1
  have O0 : ∃ r cap, Ob E hr n 46 r cap := by
    rcases N with ⟨rfl, q⟩ | ⟨rfl, q⟩
    · exact ⟨47, 512, q, by decide, by decide, by decide, by decide +kernel, by decide, by decide, rfl, by decide, by decide, by decide⟩
    · exact ⟨775, 49264, (Ob775 q (by decide)).1⟩
  obtain ⟨r0, cap0, O0⟩ := O0
  simp +decide (maxSteps := 4000000) (disch := omega) only [k203_0, k203_1, k203_2, k203_4, k203_r, k203_s, F_al0, F_il1, J_ifeq, F_il2, F_il3, T_sub, T_I, J_ifne, T_ft, T_ret, T_getR, F_is4i, F_is4r, F_is4m, F_il4, T_icgt, F_inc4i, F_inc4r, F_inc4m, T_goto, T_getI, T_putI, T_putZ, c25, c28, c105, c106, c138, c173, c196, c197, ↓s138, ↓s173, FX F, ↓s196 F hn W, show 0 ≤ nd ∧ nd ≤ e.m - 1 by omega, hf, ht, hT, ↓s25 O0, ↓reduceIte, TK, lt_run hn, le43, Int.le_refl, Int.lt_irrefl, Option.some.injEq, exists_eq_left', true_and, and_true, if_true, if_false, decide_eq_false_iff_not, decide_eq_true_eq, Nat.reduceAdd, Nat.reduceLeDiff, Nat.reduceLT, Int.reduceAdd, Int.reduceSub, Int.reduceMul, Int.reduceNeg, not_true_eq_false, not_false_eq_true]
  refine w28 F N (fun k1 hr1 e1 F1 o1 N1 => ?_)
  have hn1 : 775 ≤ 776 := Nat.le_succ _
  have q46 : hr1 46 0 = some 775 := by
    rcases N1 with ⟨q, _⟩ | ⟨_, q⟩
    · omega
    · exact q
  have O : Or E hr1 776 775 49264 := Ob775 q46 (by decide)
  have e1' : Ef Sfl h k1 := Ef.trans (Ef.hI Ef.refl (Or.inr (Or.inl (Or.inl ⟨rfl, rfl⟩)))) (e1.mono fun x k q => Or.inr (Or.inl (Or.inr q)))
  have c0 : k1 46 1 = J 0 := (e1 _ _ (by decide)).trans hI_s
  have Wr : ∀ {h1}, Ef Sfl h h1 → PW h1 hr1 e := fun q => by
    have W1 := W.z (q.mono fun x k q => Sfl_0 q)
    obtain ⟨c3, c4, c5, c6, c7, c8, cc, n1, n2, n3, n4, n5, n6⟩ := W1
    refine ⟨⟨c3.1, fun d d0 d1 => ?_⟩, c4, c5, c6, c7, c8, cc, n1, n2, n3, n4, fun i hi => ?_, fun i i0 i1 => ?_⟩
    · obtain ⟨P, c, m⟩ := c3.2 d d0 d1
      refine ⟨⟨fun s hs => ?_, P.2⟩, c, m⟩
      rw [o1 _ _ (by omega)]
      exact P.1 s hs
    · rw [o1 _ _ (by decide)]
      exact n5 i hi
    · rw [o1 _ _ (by decide)]
      exact n6 i i0 i1
  have hn := hn1
  have G := AR_127 E F1 hd.1 (show nd < 10 by omega)
  have x1 := X127 E F1 hd.1 (show nd < 10 by omega)
  simp +decide (maxSteps := 4000000) (disch := omega) only [k203_0, k203_1, k203_2, k203_4, k203_r, k203_s, F_al0, F_il1, J_ifeq, F_il2, F_il3, T_sub, T_I, J_ifne, T_ft, T_ret, T_getR, F_is4i, F_is4r, F_is4m, F_il4, T_icgt, F_inc4i, F_inc4r, F_inc4m, T_goto, T_getI, T_putI, T_putZ, c25, c28, c105, c106, c138, c173, c196, c197, ↓s25, ↓s138, ↓s173, ↓s196, FX F1, ↓reduceIte, TK, lt_run hn, le43, Int.le_refl, Int.lt_irrefl, Option.some.injEq, exists_eq_left', true_and, and_true, if_true, if_false, decide_eq_false_iff_not, decide_eq_true_eq, Nat.reduceAdd, Nat.reduceLeDiff, Nat.reduceLT, Int.reduceAdd, Int.reduceSub, Int.reduceMul, Int.reduceNeg, not_true_eq_false, not_false_eq_true]
  simp +decide (maxSteps := 4000000) (disch := omega) only [k105_0, k105_r, k105_s, F_al0, T_I, T_putI, T_putZ, T_getR, T_ret, c356, FX F1, kd_141, ↓reduceIte, TK, lt_run hn, le43, Int.le_refl, Int.lt_irrefl, Option.some.injEq, exists_eq_left', true_and, and_true, if_true, if_false, decide_eq_false_iff_not, decide_eq_true_eq, Nat.reduceAdd, Nat.reduceLeDiff, Nat.reduceLT, Int.reduceAdd, Int.reduceSub, Int.reduceMul, Int.reduceNeg, not_true_eq_false, not_false_eq_true]
  refine w356 hn1 (v := -1) (by decide +kernel) (ln_141 E) (by decide) (fun k2 p2 e2 => ?_)
  try simp +decide (maxSteps := 4000000) (disch := omega) only [k105_0, k105_r, k105_s, F_al0, T_I, T_putI, T_putZ, T_getR, T_ret, c356, ↓reduceIte, TK, lt_run hn, le43, Int.le_refl, Int.lt_irrefl, Option.some.injEq, exists_eq_left', true_and, and_true, if_true, if_false, decide_eq_false_iff_not, decide_eq_true_eq, Nat.reduceAdd, Nat.reduceLeDiff, Nat.reduceLT, Int.reduceAdd, Int.reduceSub, Int.reduceMul, Int.reduceNeg, not_true_eq_false, not_false_eq_true]
  try simp +decide (maxSteps := 4000000) (disch := omega) only [k203_0, k203_1, k203_2, k203_4, k203_r, k203_s, F_al0, F_il1, J_ifeq, F_il2, F_il3, T_sub, T_I, J_ifne, T_ft, T_ret, T_getR, F_is4i, F_is4r, F_is4m, F_il4, T_icgt, F_inc4i, F_inc4r, F_inc4m, T_goto, T_getI, T_putI, T_putZ, c25, c28, c105, c106, c138, c173, c196, c197, ↓s25, ↓s138, ↓s173, ↓s196, ↓reduceIte, TK, lt_run hn, le43, Int.le_refl, Int.lt_irrefl, Option.some.injEq, exists_eq_left', true_and, and_true, if_true, if_false, decide_eq_false_iff_not, decide_eq_true_eq, Nat.reduceAdd, Nat.reduceLeDiff, Nat.reduceLT, Int.reduceAdd, Int.reduceSub, Int.reduceMul, Int.reduceNeg, not_true_eq_false, not_false_eq_true]
  have e2' : Ef Sfl h k2 := Ef.trans (Ef.hI e1' (Or.inr (Or.inr (Or.inr (Or.inr ⟨rfl, Or.inl rfl⟩))))) (e2.mono fun x k q => Or.inr (Or.inr (Or.inl q)))
  have c10 : k2 113 10 = J 0 := (e2 _ _ (by decide)).trans hI_s
  have c00 : hI k1 113 10 (J 0) 46 1 = J 0 := by rw [hI_o (by decide)]; exact c0
  have C2 : OC k2 775 [] := ⟨(e2 _ _ (by decide)).trans c00, fun i i0 i1 => by have : i < ((0 : Nat) : Int) := i1; omega⟩
  have lp := T_for (E := E) (m := 203) (L := 3) (hr := hr1) (n := 776) (Q := Q) (σ := Unit) (fun i _ => [.ref 43, .int (J nd), .int (J fr), .int (J to), .int (J (fr + i))]) (fun i _ h' => Ef Sfl h h' ∧ OC h' 775 (flL e nd fr i.toNat) ∧ PA h' 141 (flP e nd fr i) ∧ h' 113 10 = J i ∧ ∀ j, 0 ≤ j → j < i → PA h' (144 + j.toNat) (PN e (fr + j) nd)) 0 (to - fr + 1) ?_ ?_ 0 () k2 (by omega) (by omega) ⟨e2', C2, p2, c10, fun j _ _ => by omega⟩
  · rw [Int.add_zero] at lp
    exact lp
  · rintro i _ k3 i0 i1 ⟨e3, C3, p3, t3, f3⟩ ih
    have W3 := Wr e3
    rw [k203_3]
    simp +decide (maxSteps := 4000000) (disch := omega) only [k203_0, k203_1, k203_2, k203_4, k203_r, k203_s, F_al0, F_il1, J_ifeq, F_il2, F_il3, T_sub, T_I, J_ifne, T_ft, T_ret, T_getR, F_is4i, F_is4r, F_is4m, F_il4, T_icgt, F_inc4i, F_inc4r, F_inc4m, T_goto, T_getI, T_putI, T_putZ, c25, c28, c105, c106, c138, c173, c196, c197, ↓s25, ↓s138, ↓s173, ↓s196, FX F1, show ¬ to < fr + i by omega, ↓reduceIte, TK, lt_run hn, le43, Int.le_refl, Int.lt_irrefl, Option.some.injEq, exists_eq_left', true_and, and_true, if_true, if_false, decide_eq_false_iff_not, decide_eq_true_eq, Nat.reduceAdd, Nat.reduceLeDiff, Nat.reduceLT, Int.reduceAdd, Int.reduceSub, Int.reduceMul, Int.reduceNeg, not_true_eq_false, not_false_eq_true]
    refine w197 F1 hn1 W3 (f := fr + i) hd (by omega) (fun k4 e4 p4 => ?_)
    have ns : ∀ {x k : Nat}, x = 141 ∨ x = 113 ∨ x = 46 ∨ x = 775 ∨ (144 ≤ x ∧ x ≤ 151) → ¬ Sps x k := fun {x k} w z => by
      unfold Sps at z
      omega
    have C4 : OC k4 775 (flL e nd fr i.toNat) := ⟨(e4 _ _ (ns (by decide))).trans C3.1, fun j j0 j1 => (e4.g (ns (by decide))).trans (C3.2 j j0 j1)⟩
    have fl := flL_l (e := e) (nd := nd) (fr := fr) i.toNat
    simp +decide (maxSteps := 4000000) (disch := omega) only [k203_0, k203_1, k203_2, k203_4, k203_r, k203_s, F_al0, F_il1, J_ifeq, F_il2, F_il3, T_sub, T_I, J_ifne, T_ft, T_ret, T_getR, F_is4i, F_is4r, F_is4m, F_il4, T_icgt, F_inc4i, F_inc4r, F_inc4m, T_goto, T_getI, T_putI, T_putZ, c25, c28, c105, c106, c138, c173, c196, c197, ↓s25, ↓s138, ↓s173, ↓s196, FX F1, x1, kd_46, ↓reduceIte, TK, lt_run hn, le43, Int.le_refl, Int.lt_irrefl, Option.some.injEq, exists_eq_left', true_and, and_true, if_true, if_false, decide_eq_false_iff_not, decide_eq_true_eq, Nat.reduceAdd, Nat.reduceLeDiff, Nat.reduceLT, Int.reduceAdd, Int.reduceSub, Int.reduceMul, Int.reduceNeg, not_true_eq_false, not_false_eq_true]
    refine w106 F1 hn1 O G (by omega) p4 (p3.ef e4 (fun k => ns (by decide))) (PN_r W3 _ hd.1 hd.2) (flP_r W3 hd i) C4 (by omega) (t := i) (by omega) ((e4 _ _ (ns (by decide))).trans t3) (fun k5 C5 p5 q5 t5 e5 => ?_)
    simp +decide (maxSteps := 4000000) (disch := omega) only [k203_0, k203_1, k203_2, k203_4, k203_r, k203_s, F_al0, F_il1, J_ifeq, F_il2, F_il3, T_sub, T_I, J_ifne, T_ft, T_ret, T_getR, F_is4i, F_is4r, F_is4m, F_il4, T_icgt, F_inc4i, F_inc4r, F_inc4m, T_goto, T_getI, T_putI, T_putZ, c25, c28, c105, c106, c138, c173, c196, c197, ↓s25, ↓s138, ↓s173, ↓s196, ↓reduceIte, TK, lt_run hn, le43, Int.le_refl, Int.lt_irrefl, Option.some.injEq, exists_eq_left', true_and, and_true, if_true, if_false, decide_eq_false_iff_not, decide_eq_true_eq, Nat.reduceAdd, Nat.reduceLeDiff, Nat.reduceLT, Int.reduceAdd, Int.reduceSub, Int.reduceMul, Int.reduceNeg, not_true_eq_false, not_false_eq_true]
    rw [show fr + i + 1 = fr + (i + 1) by omega]
    refine ih () _ ⟨(e3.trans (e4.mono fun x k q => Or.inl q)).trans (e5.mono fun x k q => ?_), ?_, ?_, t5, fun j j0 j1 => ?_⟩
    · unfold Saf at q
      unfold Sfl
      rcases q with q | q | q | q
      · exact Or.inr (Or.inl q)
      · exact Or.inr (Or.inr (Or.inl q))
      · exact Or.inr (Or.inr (Or.inr (Or.inl (by omega))))
      · exact Or.inr (Or.inr (Or.inr (Or.inr ⟨q.1, Or.inl q.2⟩)))
    · rw [flL_s i0]
      exact C5
    · unfold flP
      rw [if_neg (by omega), show fr + (i + 1) - 1 = fr + i by omega]
      exact p5
    · by_cases z : j = i
      · rw [z]
        exact q5
      · exact ((f3 j j0 (by omega)).ef e4 (fun k => ns (by omega))).ef e5 (fun k q => by unfold Saf Sw at q; omega)
  · rintro _ k3 ⟨e3, C3, p3, t3, f3⟩
    have d1 := C3.1
    have d2 : ∀ v, hI k3 113 11 v 46 1 = J ((flL e nd fr (to - fr + 1).toNat).length : Int) := fun v => by rw [hI_o (by decide)]; exact d1
    rw [show fr + (to - fr + 1) = to + 1 by omega]
    rw [k203_3]
    simp +decide (maxSteps := 4000000) (disch := omega) only [k203_0, k203_1, k203_2, k203_4, k203_r, k203_s, F_al0, F_il1, J_ifeq, F_il2, F_il3, T_sub, T_I, J_ifne, T_ft, T_ret, T_getR, F_is4i, F_is4r, F_is4m, F_il4, T_icgt, F_inc4i, F_inc4r, F_inc4m, T_goto, T_getI, T_putI, T_putZ, c25, c28, c105, c106, c138, c173, c196, c197, ↓s25, ↓s138, ↓s173, ↓s196, FX F1, d1, d2, kd_46, show to < to + 1 by omega, ↓reduceIte, TK, lt_run hn, le43, Int.le_refl, Int.lt_irrefl, Option.some.injEq, exists_eq_left', true_and, and_true, if_true, if_false, decide_eq_false_iff_not, decide_eq_true_eq, Nat.reduceAdd, Nat.reduceLeDiff, Nat.reduceLT, Int.reduceAdd, Int.reduceSub, Int.reduceMul, Int.reduceNeg, not_true_eq_false, not_false_eq_true]
    have e4 : Ef Sfl h (hI k3 113 11 (J ((flL e nd fr (to - fr + 1).toNat).length : Int))) := Ef.hI e3 (Or.inr (Or.inr (Or.inr (Or.inr ⟨rfl, Or.inr rfl⟩))))
    refine k _ hr1 e4 F1 o1 N1 (Wr e4) ⟨d2 _, fun i i0 i1 => ?_⟩ ⟨?_, hI_s⟩ (fun j j0 j1 q q0 q1 => ?_)
    · rw [gA_o (by decide)]
      exact C3.2 i i0 i1
    · rw [hI_k (by decide)]
      exact t3
    · rw [gA_o (by omega)]
      exact f3 j j0 j1 q q0 q1
end FH1
