/-! erase: copies of drawings, the class's call -/
section ET
variable {E : AEn} {h h' : AHi} {hr : AHr} {n : Nat} {Q : ARs → Prop} {s : Stk} {S : Nat → Nat → Prop} {l : List Stk} {x y r : Int}
/-- the cells that a copy into drawing b changes -/
def Sb (b a k : Nat) : Prop := (a = b ∧ k = 1) ∨ (b + 5 ≤ a ∧ a ≤ b + 28)
theorem w43 (F : FH hr) (hn : 775 ≤ n) {b o : Nat} (B : DB b) (O : DB o) {ρ ρ' : Nat → Nat} (P : PS hr b ρ) (P' : PS hr o ρ') (ap : b + 29 ≤ o ∨ o + 29 ≤ b) {D : Drw} (R : DRr D) (C : DC h o ρ' D)
    (k : ∀ h', DC h' b ρ D → Ef (Sb b) h h' → Q (none, h', hr, n)) : Sp E 43 [.ref b, .ref o] h hr n Q := by
  have x1 := B.x E F
  have x2 := B.r
  have y1 := O.x E F
  have y2 := O.r
  have r1 := R.1
  simp +decide (maxSteps := 4000000) (disch := omega) only [k43_0, k43_2, k43_r, k43_s, F_al0, T_I, T_putI, T_putZ, F_is2i, F_is2r, F_is2m, T_ft, F_il2, F_al1, T_getI, T_icge, T_getR, X_aald, T_sub, T_popI, F_inc2i, F_inc2r, F_inc2m, T_goto, T_ret, c39, x1, TK, lt_run hn, le43, Int.le_refl, Int.lt_irrefl, Option.some.injEq, exists_eq_left', true_and, and_true, if_true, if_false, decide_eq_false_iff_not, decide_eq_true_eq, Nat.reduceAdd, Nat.reduceLeDiff, Nat.reduceLT, Int.reduceAdd, Int.reduceSub, Int.reduceMul, Int.reduceNeg, not_true_eq_false, not_false_eq_true]
  refine T_for (σ := Unit) (fun i _ => [.ref b, .ref o, .int (J i)]) (fun i _ h' => Ef (Sb b) h h' ∧ DC h' b ρ (i, D.2)) 0 D.1 ?_ ?_ 0 () _ (by omega) (by omega) ⟨Ef.refl.hI (Or.inl ⟨rfl, rfl⟩), hI_s, fun s s0 s1 => by have : s < 0 := s1; omega⟩
  · rintro i _ h1 i0 i1 ⟨e1, C1⟩ ih
    have p1 := (P'.1 i.toNat (by omega)).1
    have pr := P'.r (s := i.toNat) (by omega)
    have qr := P.r (s := i.toNat) (by omega)
    have A := P'.sb O (s := i.toNat) (by omega)
    have x3 := A.x E F
    have A2 := A.r
    have c1 : h1 o 1 = J D.1 := by rw [e1 o 1 (fun q => by unfold Sb at q; omega)]; exact C.1
    have S1 := (C.2 i i0 i1).ef e1 (fun x k q1 q2 q => by unfold Sb at q; omega)
    have c2 := S1.1.2
    have r2 := (R.2 i).2.1
    rw [k43_1]
    simp +decide (maxSteps := 4000000) (disch := omega) only [k43_0, k43_2, k43_r, k43_s, F_al0, T_I, T_putI, T_putZ, F_is2i, F_is2r, F_is2m, T_ft, F_il2, F_al1, T_getI, T_icge, T_getR, X_aald, T_sub, T_popI, F_inc2i, F_inc2r, F_inc2m, T_goto, T_ret, c39, x1, y1, c1, c2, p1, x3, show ¬ D.1 ≤ i by omega, TK, lt_run hn, le43, Int.le_refl, Int.lt_irrefl, Option.some.injEq, exists_eq_left', true_and, and_true, if_true, if_false, decide_eq_false_iff_not, decide_eq_true_eq, Nat.reduceAdd, Nat.reduceLeDiff, Nat.reduceLT, Int.reduceAdd, Int.reduceSub, Int.reduceMul, Int.reduceNeg, not_true_eq_false, not_false_eq_true]
    refine w39 F hn B P A (m := i) (by omega) (by omega) C1.1 S1 r2.2 (by decide) (by omega) (by omega) (fun h2 C2 c3 e2 => ?_)
    rw [prt_all] at C2
    simp +decide (maxSteps := 4000000) (disch := omega) only [k43_0, k43_2, k43_r, k43_s, F_al0, T_I, T_putI, T_putZ, F_is2i, F_is2r, F_is2m, T_ft, F_il2, F_al1, T_getI, T_icge, T_getR, X_aald, T_sub, T_popI, F_inc2i, F_inc2r, F_inc2m, T_goto, T_ret, c39, TK, lt_run hn, le43, Int.le_refl, Int.lt_irrefl, Option.some.injEq, exists_eq_left', true_and, and_true, if_true, if_false, decide_eq_false_iff_not, decide_eq_true_eq, Nat.reduceAdd, Nat.reduceLeDiff, Nat.reduceLT, Int.reduceAdd, Int.reduceSub, Int.reduceMul, Int.reduceNeg, not_true_eq_false, not_false_eq_true]
    refine ih () _ ⟨e1.trans (e2.mono fun x k q => ?_), c3, fun s s0 s1 => ?_⟩
    · unfold Sa at q
      unfold Sb
      omega
    · have s1' : s < i + 1 := s1
      show SC h2 (ρ s.toNat) (D.2 s)
      by_cases g : s = i
      · rw [g]
        exact C2
      · have ap2 := P.ap (s := s.toNat) (t := i.toNat) (by omega) (by omega) (by omega)
        have sr := P.r (s := s.toNat) (by omega)
        exact (C1.2 s s0 (show s < i by omega)).ef e2 (fun x k q1 q2 q => by unfold Sa at q; omega)
  · rintro _ h1 ⟨e1, C1⟩
    have c1 : h1 o 1 = J D.1 := by rw [e1 o 1 (fun q => by unfold Sb at q; omega)]; exact C.1
    rw [k43_1]
    simp +decide (maxSteps := 4000000) (disch := omega) only [k43_0, k43_2, k43_r, k43_s, F_al0, T_I, T_putI, T_putZ, F_is2i, F_is2r, F_is2m, T_ft, F_il2, F_al1, T_getI, T_icge, T_getR, X_aald, T_sub, T_popI, F_inc2i, F_inc2r, F_inc2m, T_goto, T_ret, c39, y1, c1, TK, lt_run hn, le43, Int.le_refl, Int.lt_irrefl, Option.some.injEq, exists_eq_left', true_and, and_true, if_true, if_false, decide_eq_false_iff_not, decide_eq_true_eq, Nat.reduceAdd, Nat.reduceLeDiff, Nat.reduceLT, Int.reduceAdd, Int.reduceSub, Int.reduceMul, Int.reduceNeg, not_true_eq_false, not_false_eq_true]
    exact k h1 C1 e1
theorem w42 (F : FH hr) (hn : 775 ≤ n) {b : Nat} (B : DB b) (hb : 159 ≤ b) {ρ : Nat → Nat} (P : PS hr b ρ) {D : Drw} (R : DRr D) (hx : 0 ≤ x ∧ x ≤ 47) (hy : 0 ≤ y ∧ y ≤ 31) (hr' : 0 ≤ r ∧ r ≤ 10) (C : DC h b ρ D)
    (k : ∀ h', dsk h' (erD x y r D D.1.toNat) → Ef Sdk h h' → Q (some (.int (J (if (erD x y r D D.1.toNat).length ≤ 8 then acc (erG x y r D) D.1.toNat else -4))), h', hr, n)) : Sp E 42 [.ref 49, .ref b, .int (J x), .int (J y), .int (J r)] h hr n Q := by
  have x1 := B.x E F
  have x2 := B.r
  have r1 := R.1
  have fr : ∀ {h'}, Ef Sdk h h' → h' b 1 = J D.1 ∧ ∀ i, 0 ≤ i → i < D.1 → SC h' (ρ i.toNat) (D.2 i) := fun e => by
    refine ⟨?_, fun i i0 i1 => ?_⟩
    · rw [e b 1 (fun q => by unfold Sdk at q; omega)]
      exact C.1
    · have pr := P.r (s := i.toNat) (by omega)
      exact (C.2 i i0 i1).ef e (fun x k q1 q2 q => by unfold Sdk at q; omega)
  simp +decide (maxSteps := 4000000) (disch := omega) only [k42_0, k42_3, k42_4, k42_5, k42_6, k42_7, k42_8, k42_9, k42_r, k42_s, F_al0, T_I, T_putI, T_putZ, F_is5i, F_is5r, F_is5m, F_is6i, F_is6r, F_is6m, F_is7i, F_is7r, F_is7m, T_ft, F_il7, F_al1, T_getI, T_icge, T_getR, X_aald, F_as8i, F_as8r, F_as8m, F_is9i, F_is9r, F_is9m, F_is10i, F_is10r, F_is10m, F_il10, F_al8, T_sub, F_il2, F_il3, F_il4, J_ifeq, F_il9, J_ifne, T_add, F_inc5i, F_inc5r, F_inc5m, F_inc10i, F_inc10r, F_inc10m, T_goto, F_inc7i, F_inc7r, F_inc7m, F_il6, F_il5, T_ret, c39, c121, kd_49, TK, lt_run hn, le43, Int.le_refl, Int.lt_irrefl, Option.some.injEq, exists_eq_left', true_and, and_true, if_true, if_false, decide_eq_false_iff_not, decide_eq_true_eq, Nat.reduceAdd, Nat.reduceLeDiff, Nat.reduceLT, Int.reduceAdd, Int.reduceSub, Int.reduceMul, Int.reduceNeg, not_true_eq_false, not_false_eq_true]
  have key := T_for (E := E) (m := 42) (L := 1) (hr := hr) (n := n) (Q := Q) (σ := Value × Value × Value) (fun i v => [.ref 49, .ref b, .int (J x), .int (J y), .int (J r), .int (J (acc (erG x y r D) i.toNat)), .int (Bz (fits (erD x y r D i.toNat))), .int (J i), v.1, v.2.1, v.2.2]) (fun i v h' => Ef Sdk h h' ∧ dsk h' (erD x y r D i.toNat)) 0 D.1 ?_ ?_ 0 (a_mk, a_mk, a_mk) (hI h 49 1 (J 0)) (by omega) (by omega) ⟨Ef.refl.hI ⟨by omega, by omega⟩, hI_s, fun i st _ q => by cases q⟩
  · exact key
  · rintro i ⟨v8, v9, v10⟩ h1 i0 i1 ⟨e1, dk⟩ ih
    dsimp only
    obtain ⟨c1, c2⟩ := fr e1
    have p1 := (P.1 i.toNat (by omega)).1
    have pr := P.r (s := i.toNat) (by omega)
    have A := P.sb B (s := i.toNat) (by omega)
    have x3 := A.x E F
    rw [k42_1]
    simp +decide (maxSteps := 4000000) (disch := omega) only [k42_0, k42_3, k42_4, k42_5, k42_6, k42_7, k42_8, k42_9, k42_r, k42_s, F_al0, T_I, T_putI, T_putZ, F_is5i, F_is5r, F_is5m, F_is6i, F_is6r, F_is6m, F_is7i, F_is7r, F_is7m, T_ft, F_il7, F_al1, T_getI, T_icge, T_getR, X_aald, F_as8i, F_as8r, F_as8m, F_is9i, F_is9r, F_is9m, F_is10i, F_is10r, F_is10m, F_il10, F_al8, T_sub, F_il2, F_il3, F_il4, J_ifeq, F_il9, J_ifne, T_add, F_inc5i, F_inc5r, F_inc5m, F_inc10i, F_inc10r, F_inc10m, T_goto, F_inc7i, F_inc7r, F_inc7m, F_il6, F_il5, T_ret, c39, c121, x1, c1, p1, x3, show ¬ D.1 ≤ i by omega, TK, lt_run hn, le43, Int.le_refl, Int.lt_irrefl, Option.some.injEq, exists_eq_left', true_and, and_true, if_true, if_false, decide_eq_false_iff_not, decide_eq_true_eq, Nat.reduceAdd, Nat.reduceLeDiff, Nat.reduceLT, Int.reduceAdd, Int.reduceSub, Int.reduceMul, Int.reduceNeg, not_true_eq_false, not_false_eq_true]
    refine z42 F hn A (by omega) (R.2 i) hx hy hr' (c2 i i0 i1) dk (fun h2 v dk2 e2 => ?_)
    simp +decide (maxSteps := 4000000) (disch := omega) only [k42_0, k42_3, k42_4, k42_5, k42_6, k42_7, k42_8, k42_9, k42_r, k42_s, F_al0, T_I, T_putI, T_putZ, F_is5i, F_is5r, F_is5m, F_is6i, F_is6r, F_is6m, F_is7i, F_is7r, F_is7m, T_ft, F_il7, F_al1, T_getI, T_icge, T_getR, X_aald, F_as8i, F_as8r, F_as8m, F_is9i, F_is9r, F_is9m, F_is10i, F_is10r, F_is10m, F_il10, F_al8, T_sub, F_il2, F_il3, F_il4, J_ifeq, F_il9, J_ifne, T_add, F_inc5i, F_inc5r, F_inc5m, F_inc10i, F_inc10r, F_inc10m, T_goto, F_inc7i, F_inc7r, F_inc7m, F_il6, F_il5, T_ret, c39, c121, TK, lt_run hn, le43, Int.le_refl, Int.lt_irrefl, Option.some.injEq, exists_eq_left', true_and, and_true, if_true, if_false, decide_eq_false_iff_not, decide_eq_true_eq, Nat.reduceAdd, Nat.reduceLeDiff, Nat.reduceLT, Int.reduceAdd, Int.reduceSub, Int.reduceMul, Int.reduceNeg, not_true_eq_false, not_false_eq_true]
    have ih2 := ih (.ref (ρ i.toNat), .int v, .int (J ((D.2 i).2.1 - 1))) h2
    rw [erD_s i0, acc_s _ i0] at ih2
    exact ih2 ⟨e1.trans e2, dk2⟩
  · rintro ⟨v8, v9, v10⟩ h1 ⟨e1, dk⟩
    dsimp only
    obtain ⟨c1, c2⟩ := fr e1
    have k2 := k h1 dk e1
    by_cases g : (erD x y r D D.1.toNat).length ≤ 8
    · rw [if_pos g] at k2
      rw [show fits (erD x y r D D.1.toNat) = true from decide_eq_true g]
      rw [k42_1]
      simp +decide (maxSteps := 4000000) (disch := omega) only [k42_0, k42_3, k42_4, k42_5, k42_6, k42_7, k42_8, k42_9, k42_r, k42_s, F_al0, T_I, T_putI, T_putZ, F_is5i, F_is5r, F_is5m, F_is6i, F_is6r, F_is6m, F_is7i, F_is7r, F_is7m, T_ft, F_il7, F_al1, T_getI, T_icge, T_getR, X_aald, F_as8i, F_as8r, F_as8m, F_is9i, F_is9r, F_is9m, F_is10i, F_is10r, F_is10m, F_il10, F_al8, T_sub, F_il2, F_il3, F_il4, J_ifeq, F_il9, J_ifne, T_add, F_inc5i, F_inc5r, F_inc5m, F_inc10i, F_inc10r, F_inc10m, T_goto, F_inc7i, F_inc7r, F_inc7m, F_il6, F_il5, T_ret, c39, c121, x1, c1, Bz_t, TK, lt_run hn, le43, Int.le_refl, Int.lt_irrefl, Option.some.injEq, exists_eq_left', true_and, and_true, if_true, if_false, decide_eq_false_iff_not, decide_eq_true_eq, Nat.reduceAdd, Nat.reduceLeDiff, Nat.reduceLT, Int.reduceAdd, Int.reduceSub, Int.reduceMul, Int.reduceNeg, not_true_eq_false, not_false_eq_true]
      exact k2
    · rw [if_neg g] at k2
      rw [show fits (erD x y r D D.1.toNat) = false from decide_eq_false g]
      rw [k42_1]
      simp +decide (maxSteps := 4000000) (disch := omega) only [k42_0, k42_3, k42_4, k42_5, k42_6, k42_7, k42_8, k42_9, k42_r, k42_s, F_al0, T_I, T_putI, T_putZ, F_is5i, F_is5r, F_is5m, F_is6i, F_is6r, F_is6m, F_is7i, F_is7r, F_is7m, T_ft, F_il7, F_al1, T_getI, T_icge, T_getR, X_aald, F_as8i, F_as8r, F_as8m, F_is9i, F_is9r, F_is9m, F_is10i, F_is10r, F_is10m, F_il10, F_al8, T_sub, F_il2, F_il3, F_il4, J_ifeq, F_il9, J_ifne, T_add, F_inc5i, F_inc5r, F_inc5m, F_inc10i, F_inc10r, F_inc10m, T_goto, F_inc7i, F_inc7r, F_inc7m, F_il6, F_il5, T_ret, c39, c121, x1, c1, Bz_f, TK, lt_run hn, le43, Int.le_refl, Int.lt_irrefl, Option.some.injEq, exists_eq_left', true_and, and_true, if_true, if_false, decide_eq_false_iff_not, decide_eq_true_eq, Nat.reduceAdd, Nat.reduceLeDiff, Nat.reduceLT, Int.reduceAdd, Int.reduceSub, Int.reduceMul, Int.reduceNeg, not_true_eq_false, not_false_eq_true]
      exact k2
/-- a list of strokes as a drawing -/
def st0 : Stk := (1, 2, fun _ => 0, fun _ => 0)
theorem st0_r : SR st0 := ⟨by decide, by decide, fun _ => by show ((0 : Int) ≤ 0 ∧ (0 : Int) ≤ 47) ∧ (0 : Int) ≤ 0 ∧ (0 : Int) ≤ 31; decide⟩
def lsD (l : List Stk) : Drw := (l.length, fun i => l.getD i.toNat st0)
theorem lsD_r (h : l.length ≤ 8) (h' : ∀ st ∈ l, SR st) : DRr (lsD l) := by
  refine ⟨?_, fun i => ?_⟩
  · show 0 ≤ (l.length : Int) ∧ (l.length : Int) ≤ 8
    omega
  · show SR (l.getD i.toNat st0)
    rw [List.getD_eq_getElem?_getD]
    cases e : l[i.toNat]? with
    | none => exact st0_r
    | some v => exact h' v (List.mem_of_getElem? e)
theorem lsD_g {i : Int} (h0 : 0 ≤ i) (h1 : i < l.length) : l[i.toNat]? = some ((lsD l).2 i) := by
  show l[i.toNat]? = some (l.getD i.toNat st0)
  rw [List.getD_eq_getElem?_getD]
  have h2 : i.toNat < l.length := by omega
  rw [List.getElem?_eq_getElem h2]
  rfl
theorem dsk_D (h8 : l.length ≤ 8) (d : dsk h l) : DC h 49 (fun s => 49 + 5 + 3 * s) (lsD l) := by
  refine ⟨?_, fun i i0 i1 => ?_⟩
  · have := d.1
    rw [if_pos h8] at this
    exact this
  · have i1' : i < (l.length : Int) := i1
    exact d.2 i.toNat _ (by omega) (lsD_g i0 i1')
end ET
