/-! DRAWINGS: their strokes on both sides; area, take -/
/-- colour, points, x, y -/
abbrev Stk : Type := Int × Int × (Int → Int) × (Int → Int)
/-- how many strokes, and which -/
abbrev Drw : Type := Int × (Int → Stk)
def SC (h : AHi) (a : Nat) (s : Stk) : Prop := (h a 0 = J s.1 ∧ h a 1 = J s.2.1) ∧ ∀ j, 0 ≤ j → j < s.2.1 → gA h (a + 1) j = J (s.2.2.1 j) ∧ gA h (a + 2) j = J (s.2.2.2 j)
def SM (h : AHi) (k : Int) (s : Stk) : Prop := (gA h 709 k = J s.1 ∧ gA h 710 k = J s.2.1) ∧ ∀ j, 0 ≤ j → j < s.2.1 → gA h 711 (10 * k + j) = J (s.2.2.1 j) ∧ gA h 712 (10 * k + j) = J (s.2.2.2 j)
def SR (s : Stk) : Prop := (1 ≤ s.1 ∧ s.1 ≤ 15) ∧ (2 ≤ s.2.1 ∧ s.2.1 ≤ 10) ∧ ∀ j, (0 ≤ s.2.2.1 j ∧ s.2.2.1 j ≤ 47) ∧ 0 ≤ s.2.2.2 j ∧ s.2.2.2 j ≤ 31
/-- where the strokes of a drawing lie -/
def PS (hr : AHr) (b : Nat) (ρ : Nat → Nat) : Prop := (∀ s, s < 8 → hr (b + 1) s = some (ρ s) ∧ ∃ k, k < 8 ∧ ρ s = b + 5 + 3 * k) ∧ ∀ s t, s < 8 → t < 8 → ρ s = ρ t → s = t
def DC (h : AHi) (b : Nat) (ρ : Nat → Nat) (D : Drw) : Prop := h b 1 = J D.1 ∧ ∀ s, 0 ≤ s → s < D.1 → SC h (ρ s.toNat) (D.2 s)
def DM (h : AHi) (d : Int) (D : Drw) : Prop := gA h 708 d = J D.1 ∧ ∀ s, 0 ≤ s → s < D.1 → SM h (8 * d + s) (D.2 s)
def DRr (D : Drw) : Prop := (0 ≤ D.1 ∧ D.1 ≤ 8) ∧ ∀ s, SR (D.2 s)
def Dw (D : Int → Drw) (ρ : Int → Nat → Nat) (h : AHi) (hr : AHr) : Prop := (∀ d, DRr (D d)) ∧ ∀ d, 0 ≤ d → d < 16 → PS hr (159 + 29 * d.toNat) (ρ d) ∧ DC h (159 + 29 * d.toNat) (ρ d) (D d) ∧ DM h d (D d)
def Cp3 (h : AHi) (hr : AHr) : Prop := ∃ (D : Int → Drw) (ρ : Int → Nat → Nat), Dw D ρ h hr
section DW
variable {E : AEn} {h h' : AHi} {hr : AHr} {n : Nat} {Q : ARs → Prop} {S : Nat → Nat → Prop}
theorem SC.ef {a : Nat} {s : Stk} (C : SC h a s) (e : Ef S h h') (hs : ∀ x k, a ≤ x → x ≤ a + 2 → ¬ S x k) : SC h' a s := by
  refine ⟨⟨?_, ?_⟩, fun j j1 j2 => ?_⟩
  · rw [e a 0 (hs a 0 (by omega) (by omega))]
    exact C.1.1
  · rw [e a 1 (hs a 1 (by omega) (by omega))]
    exact C.1.2
  · rw [e.g (hs _ _ (by omega) (by omega)), e.g (hs _ _ (by omega) (by omega))]
    exact C.2 j j1 j2
theorem SM.ef {k : Int} {s : Stk} (C : SM h k s) (hk : 0 ≤ k) (hp : s.2.1 ≤ 10) (e : Ef S h h') (h1 : ¬ S 709 k.toNat) (h2 : ¬ S 710 k.toNat) (h3 : ∀ i : Nat, 10 * k.toNat ≤ i → i < 10 * k.toNat + 10 → ¬ S 711 i ∧ ¬ S 712 i) : SM h' k s := by
  refine ⟨⟨?_, ?_⟩, fun j j1 j2 => ?_⟩
  · rw [e.g h1]
    exact C.1.1
  · rw [e.g h2]
    exact C.1.2
  · have h4 := h3 (10 * k + j).toNat (by omega) (by omega)
    rw [e.g h4.1, e.g h4.2]
    exact C.2 j j1 j2
theorem PS.sb {b : Nat} {ρ : Nat → Nat} (P : PS hr b ρ) (D : DB b) {s : Nat} (hs : s < 8) : SB (ρ s) := by
  obtain ⟨_, k, hk, e⟩ := P.1 s hs
  exact ⟨b, k, D, hk, e⟩
theorem PS.r {b : Nat} {ρ : Nat → Nat} (P : PS hr b ρ) {s : Nat} (hs : s < 8) : b + 5 ≤ ρ s ∧ ρ s + 2 ≤ b + 28 := by
  obtain ⟨_, k, hk, e⟩ := P.1 s hs
  omega
/-- two strokes of one drawing lie apart -/
theorem PS.ap {b : Nat} {ρ : Nat → Nat} (P : PS hr b ρ) {s t : Nat} (hs : s < 8) (ht : t < 8) (e : s ≠ t) : ρ s + 3 ≤ ρ t ∨ ρ t + 3 ≤ ρ s := by
  obtain ⟨_, k, hk, e1⟩ := P.1 s hs
  obtain ⟨_, k', hk', e2⟩ := P.1 t ht
  have : ρ s ≠ ρ t := fun q => e (P.2 s t hs ht q)
  omega
theorem PS49 (F : FH hr) : PS hr 49 (fun s => 49 + 5 + 3 * s) := by
  refine ⟨fun s hs => ⟨(F 50 s (fam_50 s hs).1).trans (fam_50 s hs).2, s, hs, rfl⟩, fun s t _ _ e => ?_⟩
  dsimp only at e
  omega
theorem sysS {d a k : Nat} (hd : d < 16) (h1 : 159 + 29 * d + 5 ≤ a) (h2 : a ≤ 159 + 29 * d + 28) : sys a k = 3 := by
  rw [sys_D (by omega) (by omega)]
  unfold sysD
  rw [if_neg (by omega), if_neg (by omega), if_neg (by omega), if_neg (by omega)]
theorem sysS1 {d k : Nat} (hd : d < 16) (hk : k ≠ 5) : sys (159 + 29 * d) k = 3 := by
  rw [sys_D (by omega) (by omega), show (159 + 29 * d - 159) % 29 = 0 by omega]
  unfold sysD
  rw [if_neg (by decide), if_neg (by decide), if_neg (by decide), if_pos rfl, if_neg hk]
theorem Dw.sm {D : Int → Drw} {ρ : Int → Nat → Nat} (C : Dw D ρ h hr) (e : Sm 3 h h') : Dw D ρ h' hr := by
  refine ⟨C.1, fun d d1 d2 => ?_⟩
  obtain ⟨P, c, m⟩ := C.2 d d1 d2
  have r := C.1 d
  have ee : Ef (fun a k => sys a k ≠ 3) h h' := fun a k q => e a k (Decidable.not_not.mp q)
  refine ⟨P, ⟨?_, fun s s1 s2 => ?_⟩, ?_, fun s s1 s2 => ?_⟩
  · rw [e _ 1 (sysS1 (by omega) (by decide))]
    exact c.1
  · refine (c.2 s s1 s2).ef ee (fun x k x1 x2 q => q ?_)
    have := P.r (s := s.toNat) (by have := r.1; omega)
    exact sysS (d := d.toNat) (by omega) (by omega) (by omega)
  · rw [e.g rfl]
    exact m.1
  · exact (m.2 s s1 s2).ef (by omega) ((r.2 s).2.1.2) ee (fun q => q rfl) (fun q => q rfl) (fun i _ _ => ⟨fun q => q rfl, fun q => q rfl⟩)
theorem Cp3.sm (C : Cp3 h hr) (e : Sm 3 h h') : Cp3 h' hr := by
  obtain ⟨D, ρ, C⟩ := C
  exact ⟨D, ρ, C.sm e⟩
theorem Dw.cc {D : Int → Drw} {ρ : Int → Nat → Nat} (C : Dw D ρ h hr) (d : Int) (d1 : 0 ≤ d) (d2 : d < 16) : h (159 + 29 * d.toNat) 1 = J (D d).1 := (C.2 d d1 d2).2.1.1
theorem Dw.mc {D : Int → Drw} {ρ : Int → Nat → Nat} (C : Dw D ρ h hr) (d : Int) (d1 : 0 ≤ d) (d2 : d < 16) : gA h 708 d = J (D d).1 := (C.2 d d1 d2).2.2.1
/-- the cells of one drawing's strokes -/
def Sdc (d a k : Nat) : Prop := (159 + 29 * d ≤ a ∧ a < 159 + 29 * d + 29) ∨ (a = 708 ∧ k = d) ∨ (a = 709 ∧ 8 * d ≤ k ∧ k < 8 * d + 8) ∨ (a = 710 ∧ 8 * d ≤ k ∧ k < 8 * d + 8) ∨ (a = 711 ∧ 80 * d ≤ k ∧ k < 80 * d + 80) ∨ (a = 712 ∧ 80 * d ≤ k ∧ k < 80 * d + 80)
theorem Dw.upd {D : Int → Drw} {ρ : Int → Nat → Nat} (C : Dw D ρ h hr) {d : Int} (d0 : 0 ≤ d) (d1 : d < 16) {hr' : AHr} {D' : Drw} {ρ' : Nat → Nat} (e : Ef (fun a k => Sdc d.toNat a k ∨ sys a k ≠ 3) h h') (o : ∀ a q, a ≠ 159 + 29 * d.toNat + 1 → hr' a q = hr a q) (R : DRr D') (P : PS hr' (159 + 29 * d.toNat) ρ') (c : DC h' (159 + 29 * d.toNat) ρ' D') (m : DM h' d D') : Dw (fun x => if x = d then D' else D x) (fun x => if x = d then ρ' else ρ x) h' hr' := by
  refine ⟨fun x => ?_, fun x x0 x1 => ?_⟩
  · dsimp only
    split
    · exact R
    · exact C.1 x
  · dsimp only
    by_cases g : x = d
    · subst g
      rw [if_pos rfl, if_pos rfl]
      exact ⟨P, c, m⟩
    · rw [if_neg g, if_neg g]
      obtain ⟨P1, c1, m1⟩ := C.2 x x0 x1
      have r := C.1 x
      refine ⟨⟨fun s hs => ?_, P1.2⟩, ⟨?_, fun s s1 s2 => ?_⟩, ?_, fun s s1 s2 => ?_⟩
      · rw [o _ _ (by omega)]
        exact P1.1 s hs
      · rw [e _ 1 (fun q => ?_)]
        · exact c1.1
        · rcases q with q | q
          · unfold Sdc at q
            omega
          · exact q (sysS1 (by omega) (by decide))
      · refine (c1.2 s s1 s2).ef e (fun y k y1 y2 q => ?_)
        have := P1.r (s := s.toNat) (by have := r.1; omega)
        rcases q with q | q
        · unfold Sdc at q
          omega
        · exact q (sysS (d := x.toNat) (by omega) (by omega) (by omega))
      · rw [e.g (fun q => ?_)]
        · exact m1.1
        · rcases q with q | q
          · unfold Sdc at q
            omega
          · exact q rfl
      · have r1 := r.1
        refine (m1.2 s s1 s2).ef (by omega) ((r.2 s).2.1.2) e (fun q => ?_) (fun q => ?_) (fun i _ _ => ⟨fun q => ?_, fun q => ?_⟩)
        all_goals
          rcases q with q | q
          · unfold Sdc at q
            omega
          · exact q rfl
theorem s141 (F : FH hr) (hn : 775 ≤ n) {D : Int → Drw} (R : ∀ d, DRr (D d)) (C : ∀ d, 0 ≤ d → d < 16 → h (159 + 29 * d.toNat) 1 = J (D d).1) {a b : Int} (ha : -2147483648 ≤ a) (ha' : a < 2147483648) (hb : -2147483648 ≤ b) (hb' : b < 2147483648) : Sp E 141 [.ref 43, .int (J a), .int (J b)] h hr n Q ↔ Q (some (.int (Bz (decide ((0 ≤ a ∧ a ≤ 15) ∧ 0 ≤ b ∧ b ≤ (D a).1 - 1)))), h, hr, n) := by
  by_cases g : 0 ≤ a ∧ a ≤ 15
  · have x1 := X48 F g.1 (show a < 16 by omega)
    have x2 := (DB_d g.1 (show a < 16 by omega)).x E F
    have c := C a g.1 (by omega)
    have r := (R a).1
    by_cases g2 : 0 ≤ b ∧ b ≤ (D a).1 - 1
    · simp +decide (maxSteps := 4000000) (disch := omega) only [k141_0, k141_1, k141_2, k141_r, k141_s, F_il1, J_ifeq, F_il2, T_I, F_al0, T_getR, X_aald, T_getI, T_sub, T_goto, T_ft, T_ret, c137, c138, ↓s137, ↓s138, FX F, g, x1, x2, c, kd_48, ln_48, g2, TK, lt_run hn, le43, Int.le_refl, Int.lt_irrefl, Option.some.injEq, exists_eq_left', true_and, and_true, if_true, if_false, decide_eq_false_iff_not, decide_eq_true_eq, Nat.reduceAdd, Nat.reduceLeDiff, Nat.reduceLT, Int.reduceAdd, Int.reduceSub, Int.reduceMul, Int.reduceNeg, not_true_eq_false, not_false_eq_true]
      exact Iff.rfl
    · simp +decide (maxSteps := 4000000) (disch := omega) only [k141_0, k141_1, k141_2, k141_r, k141_s, F_il1, J_ifeq, F_il2, T_I, F_al0, T_getR, X_aald, T_getI, T_sub, T_goto, T_ft, T_ret, c137, c138, ↓s137, ↓s138, FX F, g, x1, x2, c, kd_48, ln_48, g2, TK, lt_run hn, le43, Int.le_refl, Int.lt_irrefl, Option.some.injEq, exists_eq_left', true_and, and_true, if_true, if_false, decide_eq_false_iff_not, decide_eq_true_eq, Nat.reduceAdd, Nat.reduceLeDiff, Nat.reduceLT, Int.reduceAdd, Int.reduceSub, Int.reduceMul, Int.reduceNeg, not_true_eq_false, not_false_eq_true]
      exact Iff.rfl
  · simp +decide (maxSteps := 4000000) (disch := omega) only [k141_0, k141_1, k141_2, k141_r, k141_s, F_il1, J_ifeq, F_il2, T_I, F_al0, T_getR, X_aald, T_getI, T_sub, T_goto, T_ft, T_ret, c137, c138, ↓s137, ↓s138, FX F, g, TK, lt_run hn, le43, Int.le_refl, Int.lt_irrefl, Option.some.injEq, exists_eq_left', true_and, and_true, if_true, if_false, decide_eq_false_iff_not, decide_eq_true_eq, Nat.reduceAdd, Nat.reduceLeDiff, Nat.reduceLT, Int.reduceAdd, Int.reduceSub, Int.reduceMul, Int.reduceNeg, not_true_eq_false, not_false_eq_true]
    exact Iff.rfl
theorem s229 (F : FH hr) (hn : 775 ≤ n) {D : Int → Drw} (R : ∀ d, DRr (D d)) (C : ∀ d, 0 ≤ d → d < 16 → gA h 708 d = J (D d).1) {a b : Int} (ha : -2147483648 ≤ a) (ha' : a < 2147483648) (hb : -2147483648 ≤ b) (hb' : b < 2147483648) : Sp E 229 [.ref 704, .int (J a), .int (J b)] h hr n Q ↔ Q (some (.int (Bz (decide ((0 ≤ a ∧ a ≤ 15) ∧ 0 ≤ b ∧ b ≤ (D a).1 - 1)))), h, hr, n) := by
  by_cases g : 0 ≤ a ∧ a ≤ 15
  · have c := C a g.1 (by omega)
    have r := (R a).1
    by_cases g2 : 0 ≤ b ∧ b ≤ (D a).1 - 1
    · simp +decide (maxSteps := 4000000) (disch := omega) only [k229_0, k229_1, k229_2, k229_r, k229_s, F_il1, J_ifeq, F_il2, T_I, F_al0, T_getR, X_iald, T_sub, T_goto, T_ft, T_ret, c218, c219, ↓s218, ↓s219, FM F, g, c, ln_708, g2, TK, lt_run hn, le43, Int.le_refl, Int.lt_irrefl, Option.some.injEq, exists_eq_left', true_and, and_true, if_true, if_false, decide_eq_false_iff_not, decide_eq_true_eq, Nat.reduceAdd, Nat.reduceLeDiff, Nat.reduceLT, Int.reduceAdd, Int.reduceSub, Int.reduceMul, Int.reduceNeg, not_true_eq_false, not_false_eq_true]
      exact Iff.rfl
    · simp +decide (maxSteps := 4000000) (disch := omega) only [k229_0, k229_1, k229_2, k229_r, k229_s, F_il1, J_ifeq, F_il2, T_I, F_al0, T_getR, X_iald, T_sub, T_goto, T_ft, T_ret, c218, c219, ↓s218, ↓s219, FM F, g, c, ln_708, g2, TK, lt_run hn, le43, Int.le_refl, Int.lt_irrefl, Option.some.injEq, exists_eq_left', true_and, and_true, if_true, if_false, decide_eq_false_iff_not, decide_eq_true_eq, Nat.reduceAdd, Nat.reduceLeDiff, Nat.reduceLT, Int.reduceAdd, Int.reduceSub, Int.reduceMul, Int.reduceNeg, not_true_eq_false, not_false_eq_true]
      exact Iff.rfl
  · simp +decide (maxSteps := 4000000) (disch := omega) only [k229_0, k229_1, k229_2, k229_r, k229_s, F_il1, J_ifeq, F_il2, T_I, F_al0, T_getR, X_iald, T_sub, T_goto, T_ft, T_ret, c218, c219, ↓s218, ↓s219, FM F, g, TK, lt_run hn, le43, Int.le_refl, Int.lt_irrefl, Option.some.injEq, exists_eq_left', true_and, and_true, if_true, if_false, decide_eq_false_iff_not, decide_eq_true_eq, Nat.reduceAdd, Nat.reduceLeDiff, Nat.reduceLT, Int.reduceAdd, Int.reduceSub, Int.reduceMul, Int.reduceNeg, not_true_eq_false, not_false_eq_true]
    exact Iff.rfl
/-- one term of an area -/
def arf (s : Stk) (k : Int) : Int := s.2.2.1 k * s.2.2.2 (if k + 1 < s.2.1 then k + 1 else 0) - s.2.2.1 (if k + 1 < s.2.1 then k + 1 else 0) * s.2.2.2 k
theorem w126 (F : FH hr) (hn : 775 ≤ n) {a : Nat} (A : SB a) {s : Stk} (C : SC h a s) (R : SR s) (k : Q (some (.int (J (acc (arf s) s.2.1.toNat))), h, hr, n)) : Sp E 126 [.ref a] h hr n Q := by
  have x1 := A.x E F
  have x2 := A.r
  have r2 := R.2.1
  obtain ⟨⟨c1, c2⟩, c3⟩ := C
  simp +decide (maxSteps := 4000000) (disch := omega) only [k126_0, k126_2, k126_3, k126_4, k126_r, k126_s, T_I, F_is1i, F_is1r, F_is1m, F_is2i, F_is2r, F_is2m, T_ft, F_il2, F_al0, T_getI, T_icge, T_add, T_goto, F_is3i, F_is3r, F_is3m, F_il1, T_getR, X_iald, F_il3, T_mul, T_sub, F_inc2i, F_inc2r, F_inc2m, T_ret, TK, lt_run hn, le43, Int.le_refl, Int.lt_irrefl, Option.some.injEq, exists_eq_left', true_and, and_true, if_true, if_false, decide_eq_false_iff_not, decide_eq_true_eq, Nat.reduceAdd, Nat.reduceLeDiff, Nat.reduceLT, Int.reduceAdd, Int.reduceSub, Int.reduceMul, Int.reduceNeg, not_true_eq_false, not_false_eq_true]
  refine T_for (σ := Int32 × Value) (fun i v => [.ref a, .int v.1, .int (J i), v.2]) (fun i v h' => h' = h ∧ v.1 = J (acc (arf s) i.toNat)) 0 s.2.1 ?_ ?_ 0 (J 0, a_mk) h (by omega) (by omega) ⟨rfl, rfl⟩
  · rintro i ⟨v, w⟩ h' i0 i1 ⟨rfl, hv⟩ ih
    dsimp only at hv ⊢
    subst hv
    have d1 := c3 i i0 i1
    by_cases g : i + 1 < s.2.1
    · have d2 := c3 (i + 1) (by omega) g
      rw [k126_1]
      simp +decide (maxSteps := 4000000) (disch := omega) only [k126_0, k126_2, k126_3, k126_4, k126_r, k126_s, T_I, F_is1i, F_is1r, F_is1m, F_is2i, F_is2r, F_is2m, T_ft, F_il2, F_al0, T_getI, T_icge, T_add, T_goto, F_is3i, F_is3r, F_is3m, F_il1, T_getR, X_iald, F_il3, T_mul, T_sub, F_inc2i, F_inc2r, F_inc2m, T_ret, x1, c2, d1, d2, show ¬ s.2.1 ≤ i by omega, show ¬ s.2.1 ≤ i + 1 by omega, TK, lt_run hn, le43, Int.le_refl, Int.lt_irrefl, Option.some.injEq, exists_eq_left', true_and, and_true, if_true, if_false, decide_eq_false_iff_not, decide_eq_true_eq, Nat.reduceAdd, Nat.reduceLeDiff, Nat.reduceLT, Int.reduceAdd, Int.reduceSub, Int.reduceMul, Int.reduceNeg, not_true_eq_false, not_false_eq_true]
      refine ih (_, _) _ ⟨rfl, congrArg J ?_⟩
      rw [acc_s _ i0, show arf s i = s.2.2.1 i * s.2.2.2 (i + 1) - s.2.2.1 (i + 1) * s.2.2.2 i by unfold arf; rw [if_pos g]]
    · have d2 := c3 0 (by omega) (by omega)
      rw [k126_1]
      simp +decide (maxSteps := 4000000) (disch := omega) only [k126_0, k126_2, k126_3, k126_4, k126_r, k126_s, T_I, F_is1i, F_is1r, F_is1m, F_is2i, F_is2r, F_is2m, T_ft, F_il2, F_al0, T_getI, T_icge, T_add, T_goto, F_is3i, F_is3r, F_is3m, F_il1, T_getR, X_iald, F_il3, T_mul, T_sub, F_inc2i, F_inc2r, F_inc2m, T_ret, x1, c2, d1, d2, show ¬ s.2.1 ≤ i by omega, show s.2.1 ≤ i + 1 by omega, TK, lt_run hn, le43, Int.le_refl, Int.lt_irrefl, Option.some.injEq, exists_eq_left', true_and, and_true, if_true, if_false, decide_eq_false_iff_not, decide_eq_true_eq, Nat.reduceAdd, Nat.reduceLeDiff, Nat.reduceLT, Int.reduceAdd, Int.reduceSub, Int.reduceMul, Int.reduceNeg, not_true_eq_false, not_false_eq_true]
      refine ih (_, _) _ ⟨rfl, congrArg J ?_⟩
      rw [acc_s _ i0, show arf s i = s.2.2.1 i * s.2.2.2 0 - s.2.2.1 0 * s.2.2.2 i by unfold arf; rw [if_neg g]]
  · rintro ⟨v, w⟩ h' ⟨rfl, hv⟩
    dsimp only at hv ⊢
    subst hv
    rw [k126_1]
    simp +decide (maxSteps := 4000000) (disch := omega) only [k126_0, k126_2, k126_3, k126_4, k126_r, k126_s, T_I, F_is1i, F_is1r, F_is1m, F_is2i, F_is2r, F_is2m, T_ft, F_il2, F_al0, T_getI, T_icge, T_add, T_goto, F_is3i, F_is3r, F_is3m, F_il1, T_getR, X_iald, F_il3, T_mul, T_sub, F_inc2i, F_inc2r, F_inc2m, T_ret, x1, c2, TK, lt_run hn, le43, Int.le_refl, Int.lt_irrefl, Option.some.injEq, exists_eq_left', true_and, and_true, if_true, if_false, decide_eq_false_iff_not, decide_eq_true_eq, Nat.reduceAdd, Nat.reduceLeDiff, Nat.reduceLT, Int.reduceAdd, Int.reduceSub, Int.reduceMul, Int.reduceNeg, not_true_eq_false, not_false_eq_true]
    exact k
theorem z249 (F : FH hr) (hn : 775 ≤ n) {m : Int} {v1 v2 : Value} {s : Stk} (hm : 0 ≤ m ∧ m < 128) (C : SM h m s) (R : SR s) (k : Q (some (.int (J (acc (arf s) s.2.1.toNat))), h, hr, n)) (w : Value) : Tm E 249 (a_bl 249 2) [.ref 704, v1, v2, .int (J m), .int (J 0), .int (J 0), w] [] h hr n Q := by
  have r2 := R.2.1
  obtain ⟨⟨c1, c2⟩, c3⟩ := C
  refine T_for (σ := Int32 × Value) (fun i v => [.ref 704, v1, v2, .int (J m), .int v.1, .int (J i), v.2]) (fun i v h' => h' = h ∧ v.1 = J (acc (arf s) i.toNat)) 0 s.2.1 ?_ ?_ 0 (J 0, w) h (by omega) (by omega) ⟨rfl, rfl⟩
  · rintro i ⟨v, w⟩ h' i0 i1 ⟨rfl, hv⟩ ih
    dsimp only at hv ⊢
    subst hv
    have d1 := c3 i i0 i1
    by_cases g : i + 1 < s.2.1
    · have d2 := c3 (i + 1) (by omega) g
      rw [k249_2]
      simp +decide (maxSteps := 4000000) (disch := omega) only [k249_0, k249_1, k249_3, k249_4, k249_5, k249_r, k249_s, F_al0, F_il1, F_il2, J_ifne, T_I, T_ret, T_mul, T_add, F_is3i, F_is3r, F_is3m, F_is4i, F_is4r, F_is4m, F_is5i, F_is5r, F_is5m, T_ft, F_il5, T_getR, F_il3, X_iald, T_icge, T_goto, F_is6i, F_is6r, F_is6m, F_il4, F_il6, T_sub, F_inc5i, F_inc5r, F_inc5m, c229, ↓s229, FM F, c2, d1, d2, ln_710, ln_711, ln_712, show ¬ s.2.1 ≤ i by omega, show ¬ s.2.1 ≤ i + 1 by omega, TK, lt_run hn, le43, Int.le_refl, Int.lt_irrefl, Option.some.injEq, exists_eq_left', true_and, and_true, if_true, if_false, decide_eq_false_iff_not, decide_eq_true_eq, Nat.reduceAdd, Nat.reduceLeDiff, Nat.reduceLT, Int.reduceAdd, Int.reduceSub, Int.reduceMul, Int.reduceNeg, not_true_eq_false, not_false_eq_true]
      refine ih (_, _) _ ⟨rfl, congrArg J ?_⟩
      rw [acc_s _ i0, show arf s i = s.2.2.1 i * s.2.2.2 (i + 1) - s.2.2.1 (i + 1) * s.2.2.2 i by unfold arf; rw [if_pos g]]
    · have d2 := c3 0 (by omega) (by omega)
      rw [k249_2]
      simp +decide (maxSteps := 4000000) (disch := omega) only [k249_0, k249_1, k249_3, k249_4, k249_5, k249_r, k249_s, F_al0, F_il1, F_il2, J_ifne, T_I, T_ret, T_mul, T_add, F_is3i, F_is3r, F_is3m, F_is4i, F_is4r, F_is4m, F_is5i, F_is5r, F_is5m, T_ft, F_il5, T_getR, F_il3, X_iald, T_icge, T_goto, F_is6i, F_is6r, F_is6m, F_il4, F_il6, T_sub, F_inc5i, F_inc5r, F_inc5m, c229, ↓s229, FM F, c2, d1, d2, ln_710, ln_711, ln_712, show ¬ s.2.1 ≤ i by omega, show s.2.1 ≤ i + 1 by omega, TK, lt_run hn, le43, Int.le_refl, Int.lt_irrefl, Option.some.injEq, exists_eq_left', true_and, and_true, if_true, if_false, decide_eq_false_iff_not, decide_eq_true_eq, Nat.reduceAdd, Nat.reduceLeDiff, Nat.reduceLT, Int.reduceAdd, Int.reduceSub, Int.reduceMul, Int.reduceNeg, not_true_eq_false, not_false_eq_true]
      refine ih (_, _) _ ⟨rfl, congrArg J ?_⟩
      rw [acc_s _ i0, show arf s i = s.2.2.1 i * s.2.2.2 0 - s.2.2.1 0 * s.2.2.2 i by unfold arf; rw [if_neg g]]
  · rintro ⟨v, w⟩ h' ⟨rfl, hv⟩
    dsimp only at hv ⊢
    subst hv
    rw [k249_2]
    simp +decide (maxSteps := 4000000) (disch := omega) only [k249_0, k249_1, k249_3, k249_4, k249_5, k249_r, k249_s, F_al0, F_il1, F_il2, J_ifne, T_I, T_ret, T_mul, T_add, F_is3i, F_is3r, F_is3m, F_is4i, F_is4r, F_is4m, F_is5i, F_is5r, F_is5m, T_ft, F_il5, T_getR, F_il3, X_iald, T_icge, T_goto, F_is6i, F_is6r, F_is6m, F_il4, F_il6, T_sub, F_inc5i, F_inc5r, F_inc5m, c229, ↓s229, FM F, c2, ln_710, TK, lt_run hn, le43, Int.le_refl, Int.lt_irrefl, Option.some.injEq, exists_eq_left', true_and, and_true, if_true, if_false, decide_eq_false_iff_not, decide_eq_true_eq, Nat.reduceAdd, Nat.reduceLeDiff, Nat.reduceLT, Int.reduceAdd, Int.reduceSub, Int.reduceMul, Int.reduceNeg, not_true_eq_false, not_false_eq_true]
    exact k
theorem Parea (F : FH hr) (hn : 775 ≤ n) (C : Cp3 h hr) (x y : Int32) : Pr2 E 148 249 [.int x, .int y] h hr n (Po (fun h' => Cp3 h' hr) 0 0 h hr n) := by
  have C0 := C
  obtain ⟨D, ρ, C⟩ := C
  obtain ⟨a, ha, ha', rfl⟩ := J_of x
  obtain ⟨b, hb, hb', rfl⟩ := J_of y
  unfold Pr2
  by_cases g : (0 ≤ a ∧ a ≤ 15) ∧ 0 ≤ b ∧ b ≤ (D a).1 - 1
  case neg =>
    simp +decide (maxSteps := 4000000) (disch := omega) only [k148_0, k148_1, k148_r, k148_s, F_al0, F_il1, F_il2, J_ifne, T_I, T_ret, T_getR, X_aald, c126, c141, FX F, ↓s141 F hn C.1 C.cc, ↓s229 F hn C.1 C.mc, g, TK, lt_run hn, le43, Int.le_refl, Int.lt_irrefl, Option.some.injEq, exists_eq_left', true_and, and_true, if_true, if_false, decide_eq_false_iff_not, decide_eq_true_eq, Nat.reduceAdd, Nat.reduceLeDiff, Nat.reduceLT, Int.reduceAdd, Int.reduceSub, Int.reduceMul, Int.reduceNeg, not_true_eq_false, not_false_eq_true]
    refine ⟨_, rfl, ?_⟩
    simp +decide (maxSteps := 4000000) (disch := omega) only [k249_0, k249_1, k249_3, k249_4, k249_5, k249_r, k249_s, F_al0, F_il1, F_il2, J_ifne, T_I, T_ret, T_mul, T_add, F_is3i, F_is3r, F_is3m, F_is4i, F_is4r, F_is4m, F_is5i, F_is5r, F_is5m, T_ft, F_il5, T_getR, F_il3, X_iald, T_icge, T_goto, F_is6i, F_is6r, F_is6m, F_il4, F_il6, T_sub, F_inc5i, F_inc5r, F_inc5m, c229, FM F, ↓s141 F hn C.1 C.cc, ↓s229 F hn C.1 C.mc, g, TK, lt_run hn, le43, Int.le_refl, Int.lt_irrefl, Option.some.injEq, exists_eq_left', true_and, and_true, if_true, if_false, decide_eq_false_iff_not, decide_eq_true_eq, Nat.reduceAdd, Nat.reduceLeDiff, Nat.reduceLT, Int.reduceAdd, Int.reduceSub, Int.reduceMul, Int.reduceNeg, not_true_eq_false, not_false_eq_true]
    first | exact ⟨rfl, ⟨C0, Kp.refl⟩, rfl, rfl⟩ | exact ⟨⟨C0, Kp.refl⟩, rfl, rfl⟩ | exact ⟨C0, Kp.refl⟩
  obtain ⟨P, c, m⟩ := C.2 a g.1.1 (by omega)
  have r := C.1 a
  have r1 := r.1
  have x1 := X48 F g.1.1 (show a < 16 by omega)
  have B := DB_d g.1.1 (show a < 16 by omega)
  have x2 := B.x E F
  have p1 := (P.1 b.toNat (by omega)).1
  have A := P.sb B (s := b.toNat) (by omega)
  have x3 := A.x E F
  have x4 := A.r
  simp +decide (maxSteps := 4000000) (disch := omega) only [k148_0, k148_1, k148_r, k148_s, F_al0, F_il1, F_il2, J_ifne, T_I, T_ret, T_getR, X_aald, c126, c141, FX F, ↓s141 F hn C.1 C.cc, g, x1, x2, p1, x3, kd_48, ln_48, TK, lt_run hn, le43, Int.le_refl, Int.lt_irrefl, Option.some.injEq, exists_eq_left', true_and, and_true, if_true, if_false, decide_eq_false_iff_not, decide_eq_true_eq, Nat.reduceAdd, Nat.reduceLeDiff, Nat.reduceLT, Int.reduceAdd, Int.reduceSub, Int.reduceMul, Int.reduceNeg, not_true_eq_false, not_false_eq_true]
  refine w126 F hn A (c.2 b (by omega) (by omega)) (r.2 b) ?_
  simp +decide (maxSteps := 4000000) (disch := omega) only [k148_0, k148_1, k148_r, k148_s, F_al0, F_il1, F_il2, J_ifne, T_I, T_ret, T_getR, X_aald, c126, c141, ↓s141, TK, lt_run hn, le43, Int.le_refl, Int.lt_irrefl, Option.some.injEq, exists_eq_left', true_and, and_true, if_true, if_false, decide_eq_false_iff_not, decide_eq_true_eq, Nat.reduceAdd, Nat.reduceLeDiff, Nat.reduceLT, Int.reduceAdd, Int.reduceSub, Int.reduceMul, Int.reduceNeg, not_true_eq_false, not_false_eq_true]
  refine ⟨_, rfl, ?_⟩
  simp +decide (maxSteps := 4000000) (disch := omega) only [k249_0, k249_1, k249_3, k249_4, k249_5, k249_r, k249_s, F_al0, F_il1, F_il2, J_ifne, T_I, T_ret, T_mul, T_add, F_is3i, F_is3r, F_is3m, F_is4i, F_is4r, F_is4m, F_is5i, F_is5r, F_is5m, T_ft, F_il5, T_getR, F_il3, X_iald, T_icge, T_goto, F_is6i, F_is6r, F_is6m, F_il4, F_il6, T_sub, F_inc5i, F_inc5r, F_inc5m, c229, FM F, ↓s229 F hn C.1 C.mc, g, TK, lt_run hn, le43, Int.le_refl, Int.lt_irrefl, Option.some.injEq, exists_eq_left', true_and, and_true, if_true, if_false, decide_eq_false_iff_not, decide_eq_true_eq, Nat.reduceAdd, Nat.reduceLeDiff, Nat.reduceLT, Int.reduceAdd, Int.reduceSub, Int.reduceMul, Int.reduceNeg, not_true_eq_false, not_false_eq_true]
  exact z249 F hn (by omega) (m.2 b (by omega) (by omega)) (r.2 b) ⟨rfl, ⟨C0, Kp.refl⟩, rfl, rfl⟩ _
end DW
