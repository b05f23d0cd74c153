/-! fill, region -/
/-- whether p is reached; whether the region is open -/
noncomputable def rg (W : Int → Int) (s p : Int) : Bool := @decide (Cn W s p) (Classical.propDecidable _)
noncomputable def ro (W : Int → Int) (s : Int) : Bool := @decide (∃ p, Cn W s p ∧ bdr p = true) (Classical.propDecidable _)
theorem rg_t {W : Int → Int} {s p : Int} : rg W s p = true ↔ Cn W s p := @decide_eq_true_iff _ (Classical.propDecidable _)
theorem ro_t {W : Int → Int} {s : Int} : ro W s = true ↔ ∃ p, Cn W s p ∧ bdr p = true := @decide_eq_true_iff _ (Classical.propDecidable _)
theorem bool_ext {a b : Bool} (h : a = true ↔ b = true) : a = b := by
  cases a <;> cases b
  · rfl
  · exact (h.mpr rfl)
  · exact (h.mp rfl).symm
  · rfl
theorem rg_e {W : Int → Int} {s : Int} {M : Int → Bool} (h : ∀ p, M p = true ↔ Cn W s p) : M = rg W s := funext fun p => bool_ext ((h p).trans rg_t.symm)
theorem cnt_p {S : Int → Bool} {p : Int} (hp : 0 ≤ p ∧ p < 1536) (hS : S p = true) : 0 < cnt S := by
  have e : S = setB (fun q => if q = p then false else S q) p := funext fun q => by
    unfold setB
    by_cases g : q = p
    · rw [if_pos g, g, hS]
    · rw [if_neg g]
      dsimp only
      rw [if_neg g]
  have h1 := cnt_set (S := fun q => if q = p then false else S q) hp (if_pos rfl)
  rw [← e] at h1
  have h2 := cnt_r (fun q => if q = p then false else S q)
  omega
theorem ro_p {W : Int → Int} {s : Int} (h : ro W s = true) : 0 < cnt (rg W s) := by
  obtain ⟨p, h1, _⟩ := ro_t.mp h
  have fr := h1.f
  exact cnt_p ⟨fr.1, fr.2.1⟩ (rg_t.mpr h1)
theorem RC.o {W : Int → Int} {s : Int} {h : AHi} {S : Int → Bool} {R : Int → Int} (C : RC W s h S R) (re : RE W s S) : h 78 5 = Bz (ro W s) ∧ (ro W s = false → S = rg W s) := by
  obtain ⟨⟨c1, o, c2, c3⟩, c4, c5, c6⟩ := C
  have cl : (∀ p q, S p = true → adj p q → fre W q → S q = true) ∧ (fre W s → S s = true) → S = rg W s := fun a => rg_e fun p => ⟨fun q => (c6 p q).1, fun q => q (fun p => S p = true) a.2 (fun p q h1 h2 h3 => a.1 p q h1 h2 h3)⟩
  have eo : o = ro W s := by
    refine bool_ext ⟨fun q => ?_, fun q => ?_⟩
    · obtain ⟨p, p1, p2⟩ := c3.mp q
      exact ro_t.mpr ⟨p, (c6 p p1).1, p2⟩
    · rcases re with a | a
      · exact c3.mpr a
      · obtain ⟨p, p1, p2⟩ := ro_t.mp q
        refine c3.mpr ⟨p, ?_, p2⟩
        rw [cl a]
        exact rg_t.mpr p1
  refine ⟨by rw [← eo]; exact c2, fun q => ?_⟩
  rcases re with a | a
  · have := c3.mpr a
    rw [eo, q] at this
    cases this
  · exact cl a
/-- the walls of a drawing at a gap -/
def wll (D : Drw) (g : Int) : Int → Int := wlI (inkD D D.1.toNat) (endD D D.1.toNat) g (endD D D.1.toNat).length
def Scv (a k : Nat) : Prop := (79 ≤ a ∧ a ≤ 84) ∨ (a = 78 ∧ (k = 4 ∨ k = 5 ∨ k = 8))
theorem scv0 {a k : Nat} (h : Scv a k) : sys a k = 0 := sys_0 (by unfold Scv at h; omega) (by unfold Scv at h; omega)
theorem sdr0 {a k : Nat} (h : Sdr a k) : sys a k = 0 := by
  rcases h with h | ⟨rfl, rfl | rfl⟩
  · rcases (show a = 724 ∨ a = 725 ∨ a = 726 by omega) with rfl | rfl | rfl <;> rfl
  · rfl
  · rfl
theorem scw0 {a k : Nat} (h : Scw a k) : sys a k = 0 := by
  rcases h with (rfl | rfl | ⟨rfl, rfl | rfl⟩) | (rfl | rfl | rfl | ⟨rfl, rfl | rfl⟩) <;> rfl
section RN
variable {E : AEn} {h h' : AHi} {hr : AHr} {n : Nat} {Q : ARs → Prop} {g s : Int}
theorem endD_2 {D : Drw} (R : DRr D) : (endD D D.1.toNat).length ≤ 16 := by
  have := (endD_l R D.1.toNat).1
  have := R.1
  omega
theorem w30 (F : FH hr) (hn : 775 ≤ n) {b : Nat} (B : DB b) {ρ : Nat → Nat} (P : PS hr b ρ) {D : Drw} (R : DRr D) (C : DC h b ρ D) (hg : 0 ≤ g ∧ g ≤ 8) (hs : 0 ≤ s ∧ s < 1536)
    (k : ∀ h', Ef Scv h h' → Q (some (.int (J (if ro (wll D g) s = true then -5 else cnt (rg (wll D g) s)))), h', hr, n)) : Sp E 30 [.ref 78, .ref b, .int (J s), .int (J g)] h hr n Q := by
  simp +decide (maxSteps := 4000000) (disch := omega) only [k30_0, k30_1, k30_2, k30_r, k30_s, F_al0, F_al1, F_il2, F_il3, T_getI, J_ifeq, T_I, T_goto, T_ft, T_ret, c31, c34, FX F, TK, lt_run hn, le43, Int.le_refl, Int.lt_irrefl, Option.some.injEq, exists_eq_left', true_and, and_true, if_true, if_false, decide_eq_false_iff_not, decide_eq_true_eq, Nat.reduceAdd, Nat.reduceLeDiff, Nat.reduceLT, Int.reduceAdd, Int.reduceSub, Int.reduceMul, Int.reduceNeg, not_true_eq_false, not_false_eq_true]
  refine w31 F hn B P R C (fun h1 P1 L1 e1 => ?_)
  simp +decide (maxSteps := 4000000) (disch := omega) only [k30_0, k30_1, k30_2, k30_r, k30_s, F_al0, F_al1, F_il2, F_il3, T_getI, J_ifeq, T_I, T_goto, T_ft, T_ret, c31, c34, FX F, TK, lt_run hn, le43, Int.le_refl, Int.lt_irrefl, Option.some.injEq, exists_eq_left', true_and, and_true, if_true, if_false, decide_eq_false_iff_not, decide_eq_true_eq, Nat.reduceAdd, Nat.reduceLeDiff, Nat.reduceLT, Int.reduceAdd, Int.reduceSub, Int.reduceMul, Int.reduceNeg, not_true_eq_false, not_false_eq_true]
  refine w34 F hn hg L1 (endD_2 R) (endD_l R _).2 P1 (inkD_r R _) hs (fun h2 S R2 C2 re e2 => ?_)
  have k := k h2 ((e1.mono fun a k q => by unfold Sik Sie at q; unfold Scv; omega).trans (e2.mono fun a k q => by unfold Srg at q; unfold Scv; omega))
  have C3 := C2.o re
  have c4 := C2.1.1
  unfold wll at k
  generalize wlI (inkD D D.1.toNat) (endD D D.1.toNat) g (endD D D.1.toNat).length = W at *
  obtain ⟨c1, c2⟩ := C3
  cases o : ro W s with
  | true =>
    rw [o, Bz_t] at c1
    rw [o, if_pos rfl] at k
    simp +decide (maxSteps := 4000000) (disch := omega) only [k30_0, k30_1, k30_2, k30_r, k30_s, F_al0, F_al1, F_il2, F_il3, T_getI, J_ifeq, T_I, T_goto, T_ft, T_ret, c31, c34, FX F, c1, TK, lt_run hn, le43, Int.le_refl, Int.lt_irrefl, Option.some.injEq, exists_eq_left', true_and, and_true, if_true, if_false, decide_eq_false_iff_not, decide_eq_true_eq, Nat.reduceAdd, Nat.reduceLeDiff, Nat.reduceLT, Int.reduceAdd, Int.reduceSub, Int.reduceMul, Int.reduceNeg, not_true_eq_false, not_false_eq_true]
    exact k
  | false =>
    rw [o, Bz_f] at c1
    rw [o, if_neg (by decide), ← c2 o] at k
    simp +decide (maxSteps := 4000000) (disch := omega) only [k30_0, k30_1, k30_2, k30_r, k30_s, F_al0, F_al1, F_il2, F_il3, T_getI, J_ifeq, T_I, T_goto, T_ft, T_ret, c31, c34, FX F, c1, c4, TK, lt_run hn, le43, Int.le_refl, Int.lt_irrefl, Option.some.injEq, exists_eq_left', true_and, and_true, if_true, if_false, decide_eq_false_iff_not, decide_eq_true_eq, Nat.reduceAdd, Nat.reduceLeDiff, Nat.reduceLT, Int.reduceAdd, Int.reduceSub, Int.reduceMul, Int.reduceNeg, not_true_eq_false, not_false_eq_true]
    exact k
def addF (G : Fils) (f : Fil) : Fils := (G.1 + 1, fun i => if i = G.1 then f else G.2 i)
theorem addF_r {G : Fils} (R : FRr G) (hG : G.1 < 6) {f : Fil} (hf : FR f) : FRr (addF G f) := by
  refine ⟨⟨?_, ?_⟩, fun i => ?_⟩
  · show 0 ≤ G.1 + 1
    have := R.1
    omega
  · show G.1 + 1 ≤ 6
    omega
  · show FR (if i = G.1 then f else G.2 i)
    split
    · exact hf
    · exact R.2 i
theorem w44 (F : FH hr) (hn : 775 ≤ n) {b : Nat} (B : DB b) {G : Fils} (R : FRr G) (hG : G.1 < 6) (C : FC h b G) {f : Fil}
    (k : ∀ h', FC h' b (addF G f) → Ef (fun a k => (a = b ∧ k = 5) ∨ (b + 2 ≤ a ∧ a ≤ b + 4)) h h' → Q (none, h', hr, n)) : Sp E 44 [.ref b, .int (J (f.2.1 * 48 + f.1)), .int (J f.2.2.1), .int (J f.2.2.2)] h hr n Q := by
  have x1 := B.x E F
  have x2 := B.r
  have r1 := R.1
  obtain ⟨c1, c2⟩ := C
  have e1 : ∀ v, sA h (b + 2) G.1 v b 5 = J G.1 := fun v => by rw [sA_o (by omega)]; exact c1
  have e2 : ∀ v w, sA (sA h (b + 2) G.1 v) (b + 3) G.1 w b 5 = J G.1 := fun v w => by rw [sA_o (by omega)]; exact e1 v
  have e3 : ∀ v w u, sA (sA (sA h (b + 2) G.1 v) (b + 3) G.1 w) (b + 4) G.1 u b 5 = J G.1 := fun v w u => by rw [sA_o (by omega)]; exact e2 v w
  simp +decide (maxSteps := 4000000) (disch := omega) only [k44_0, k44_1, k44_r, k44_s, F_al0, T_getI, T_I, T_icge, T_getR, F_il1, T_iast, F_il2, F_il3, T_dupI, T_dupR, T_add, T_putI, T_putZ, T_ft, T_ret, x1, c1, e1, e2, e3, show ¬ 6 ≤ G.1 by omega, TK, lt_run hn, le43, Int.le_refl, Int.lt_irrefl, Option.some.injEq, exists_eq_left', true_and, and_true, if_true, if_false, decide_eq_false_iff_not, decide_eq_true_eq, Nat.reduceAdd, Nat.reduceLeDiff, Nat.reduceLT, Int.reduceAdd, Int.reduceSub, Int.reduceMul, Int.reduceNeg, not_true_eq_false, not_false_eq_true]
  refine k _ ⟨hI_s, fun i i0 i1 => ?_⟩ (Ef.hI (Ef.sA (Ef.sA (Ef.sA Ef.refl (by omega)) (by omega)) (by omega)) (by omega))
  have i2 : i < G.1 + 1 := i1
  show FcC _ b i (if i = G.1 then f else G.2 i)
  unfold FcC
  rw [gA_o (by omega), gA_o (by omega), gA_o (by omega), gs_o (by omega), gs_o (by omega), gs_o (b := b + 3) (by omega)]
  by_cases e : i = G.1
  · rw [if_pos e, e, gs_s, gs_s, gs_s]
    exact ⟨rfl, rfl, rfl⟩
  · rw [if_neg e, gs_k (by omega) i0 e, gs_k (by omega) i0 e, gs_k (by omega) i0 e, gs_o (by omega), gs_o (by omega), gs_o (by omega)]
    exact c2 i i0 (by omega)
theorem FC.ef {S : Nat → Nat → Prop} {b : Nat} {G : Fils} (C : FC h b G) (e : Ef S h h') (hs : ∀ x k, b ≤ x → x ≤ b + 4 → ¬ S x k) : FC h' b G := ⟨by rw [e b 5 (hs _ _ (by omega) (by omega))]; exact C.1, fun i i0 i1 => (C.2 i i0 i1).ef e (fun x h1 h2 => hs x _ (by omega) h2)⟩
theorem FD.ef {S : Nat → Nat → Prop} {d : Int} {G : Fils} (C : FD h d G) (e : Ef S h h') (hs : ∀ x k, 719 ≤ x → x ≤ 723 → ¬ S x k) : FD h' d G := ⟨by rw [e.g (hs _ _ (by omega) (by omega))]; exact C.1, fun i i0 i1 => (C.2 i i0 i1).ef e (fun x h1 h2 => hs x _ (by omega) h2)⟩
/-- draws, comesFrom, by the reference's own rows -/
theorem m254 (F : FH hr) (hn : 775 ≤ n) {d x y : Int} {D : Drw} (hd : 0 ≤ d ∧ d < 16) (hx : 0 ≤ x ∧ x ≤ 47) (hy : 0 ≤ y ∧ y ≤ 31) (R : DRr D) (Mm : DM h d D) (X : WX h D.1 (wgD D off0)) (hg : 0 ≤ g ∧ g ≤ 8) (P : PA h 726 (inkD (wgD D off0) D.1.toNat))
    (k : ∀ h', (h' 704 36 = J (cnt (rg (wll D g) (y * 48 + x))) ∧ h' 704 37 = Bz (ro (wll D g) (y * 48 + x))) → Ef Scw h h' → Q (none, h', hr, n)) : Sp E 254 [.ref 704, .int (J d), .int (J x), .int (J y), .int (J g)] h hr n Q := by
  rw [wgD_0 R] at X P
  refine w254 F hn (D' := D) hd hx hy R R rfl (fun _ => rfl) Mm X hg P (inkD_r R _) rfl (fun h1 M o a1 _ a2 a3 e1 => ?_)
  have e2 : 48 * y + x = y * 48 + x := by omega
  rw [e2] at a2
  have e3 := rg_e a2
  refine k h1 ⟨by unfold wll; rw [← e3]; exact a1.1, ?_⟩ e1
  have e4 : o = ro (wll D g) (y * 48 + x) := bool_ext (a3.trans (Iff.trans ⟨fun ⟨p, p1, p2⟩ => ⟨p, (a2 p).mp p1, p2⟩, fun ⟨p, p1, p2⟩ => ⟨p, (a2 p).mpr p1, p2⟩⟩ ro_t.symm))
  rw [← e4]
  exact a1.2
theorem W0 {l fr : Int} (h1 : l = -1) : Wof h l fr off0 := Or.inl ⟨h1, fun _ _ _ => rfl⟩
theorem Pfill (F : FH hr) (hn : 775 ≤ n) (C3 : Cp3 h hr) (C4 : Cp4 h) (x y z u v : Int32) : Pr2 E 149 250 [.int x, .int y, .int z, .int u, .int v] h hr n (Po Cp4 4 4 h hr n) := by
  have C40 := C4
  obtain ⟨D, ρ, C⟩ := C3
  obtain ⟨G, C4⟩ := C4
  obtain ⟨a, ha, ha', rfl⟩ := J_of x
  obtain ⟨b, hb, hb', rfl⟩ := J_of y
  obtain ⟨c, hc, hc', rfl⟩ := J_of z
  obtain ⟨e, he, he', rfl⟩ := J_of u
  obtain ⟨q, hq, hq', rfl⟩ := J_of v
  unfold Pr2
  by_cases g1 : 0 ≤ a ∧ a ≤ 15
  case neg =>
    simp +decide (maxSteps := 4000000) (disch := omega) only [k149_0, k149_1, k149_2, k149_3, k149_4, k149_r, k149_s, F_il1, J_ifeq, F_il2, F_il3, F_il4, T_I, F_il5, J_ifne, T_ft, T_ret, F_al0, T_getR, X_aald, F_as6i, F_as6r, F_as6m, F_al6, T_getI, T_iclt, F_is7i, F_is7r, F_is7m, F_il7, J_ifle, c30, c44, c137, c138, c145, c150, c151, ↓s137, ↓s138, ↓s145, ↓s150, ↓s151, FX F, g1, TK, lt_run hn, le43, Int.le_refl, Int.lt_irrefl, Option.some.injEq, exists_eq_left', true_and, and_true, if_true, if_false, decide_eq_false_iff_not, decide_eq_true_eq, Nat.reduceAdd, Nat.reduceLeDiff, Nat.reduceLT, Int.reduceAdd, Int.reduceSub, Int.reduceMul, Int.reduceNeg, not_true_eq_false, not_false_eq_true]
    refine ⟨_, rfl, ?_⟩
    simp +decide (maxSteps := 4000000) (disch := omega) only [k250_0, k250_1, k250_2, k250_3, k250_4, k250_5, k250_r, k250_s, F_il1, J_ifeq, F_il2, F_il3, F_il4, T_I, F_il5, J_ifne, T_ft, T_ret, F_al0, T_getR, X_iald, J_icne, T_getI, T_mul, T_add, F_is6i, F_is6r, F_is6m, F_il6, T_iast, T_dup2, c218, c219, c237, c251, c254, ↓s218, ↓s219, ↓s237, FM F, g1, TK, lt_run hn, le43, Int.le_refl, Int.lt_irrefl, Option.some.injEq, exists_eq_left', true_and, and_true, if_true, if_false, decide_eq_false_iff_not, decide_eq_true_eq, Nat.reduceAdd, Nat.reduceLeDiff, Nat.reduceLT, Int.reduceAdd, Int.reduceSub, Int.reduceMul, Int.reduceNeg, not_true_eq_false, not_false_eq_true]
    first | exact ⟨rfl, ⟨C40, Kp.refl⟩, rfl, rfl⟩ | exact ⟨⟨C40, Kp.refl⟩, rfl, rfl⟩ | exact ⟨C40, Kp.refl⟩
  by_cases g2 : (0 ≤ b ∧ b ≤ 47) ∧ 0 ≤ c ∧ c ≤ 31
  case neg =>
    simp +decide (maxSteps := 4000000) (disch := omega) only [k149_0, k149_1, k149_2, k149_3, k149_4, k149_r, k149_s, F_il1, J_ifeq, F_il2, F_il3, F_il4, T_I, F_il5, J_ifne, T_ft, T_ret, F_al0, T_getR, X_aald, F_as6i, F_as6r, F_as6m, F_al6, T_getI, T_iclt, F_is7i, F_is7r, F_is7m, F_il7, J_ifle, c30, c44, c137, c138, c145, c150, c151, ↓s137, ↓s138, ↓s145, ↓s150, ↓s151, FX F, g1, g2, TK, lt_run hn, le43, Int.le_refl, Int.lt_irrefl, Option.some.injEq, exists_eq_left', true_and, and_true, if_true, if_false, decide_eq_false_iff_not, decide_eq_true_eq, Nat.reduceAdd, Nat.reduceLeDiff, Nat.reduceLT, Int.reduceAdd, Int.reduceSub, Int.reduceMul, Int.reduceNeg, not_true_eq_false, not_false_eq_true]
    refine ⟨_, rfl, ?_⟩
    simp +decide (maxSteps := 4000000) (disch := omega) only [k250_0, k250_1, k250_2, k250_3, k250_4, k250_5, k250_r, k250_s, F_il1, J_ifeq, F_il2, F_il3, F_il4, T_I, F_il5, J_ifne, T_ft, T_ret, F_al0, T_getR, X_iald, J_icne, T_getI, T_mul, T_add, F_is6i, F_is6r, F_is6m, F_il6, T_iast, T_dup2, c218, c219, c237, c251, c254, ↓s218, ↓s219, ↓s237, FM F, g1, g2, TK, lt_run hn, le43, Int.le_refl, Int.lt_irrefl, Option.some.injEq, exists_eq_left', true_and, and_true, if_true, if_false, decide_eq_false_iff_not, decide_eq_true_eq, Nat.reduceAdd, Nat.reduceLeDiff, Nat.reduceLT, Int.reduceAdd, Int.reduceSub, Int.reduceMul, Int.reduceNeg, not_true_eq_false, not_false_eq_true]
    first | exact ⟨rfl, ⟨C40, Kp.refl⟩, rfl, rfl⟩ | exact ⟨⟨C40, Kp.refl⟩, rfl, rfl⟩ | exact ⟨C40, Kp.refl⟩
  by_cases g3 : 0 ≤ e ∧ e ≤ 8
  case neg =>
    simp +decide (maxSteps := 4000000) (disch := omega) only [k149_0, k149_1, k149_2, k149_3, k149_4, k149_r, k149_s, F_il1, J_ifeq, F_il2, F_il3, F_il4, T_I, F_il5, J_ifne, T_ft, T_ret, F_al0, T_getR, X_aald, F_as6i, F_as6r, F_as6m, F_al6, T_getI, T_iclt, F_is7i, F_is7r, F_is7m, F_il7, J_ifle, c30, c44, c137, c138, c145, c150, c151, ↓s137, ↓s138, ↓s145, ↓s150, ↓s151, FX F, g1, g2, g3, TK, lt_run hn, le43, Int.le_refl, Int.lt_irrefl, Option.some.injEq, exists_eq_left', true_and, and_true, if_true, if_false, decide_eq_false_iff_not, decide_eq_true_eq, Nat.reduceAdd, Nat.reduceLeDiff, Nat.reduceLT, Int.reduceAdd, Int.reduceSub, Int.reduceMul, Int.reduceNeg, not_true_eq_false, not_false_eq_true]
    refine ⟨_, rfl, ?_⟩
    simp +decide (maxSteps := 4000000) (disch := omega) only [k250_0, k250_1, k250_2, k250_3, k250_4, k250_5, k250_r, k250_s, F_il1, J_ifeq, F_il2, F_il3, F_il4, T_I, F_il5, J_ifne, T_ft, T_ret, F_al0, T_getR, X_iald, J_icne, T_getI, T_mul, T_add, F_is6i, F_is6r, F_is6m, F_il6, T_iast, T_dup2, c218, c219, c237, c251, c254, ↓s218, ↓s219, ↓s237, FM F, g1, g2, g3, TK, lt_run hn, le43, Int.le_refl, Int.lt_irrefl, Option.some.injEq, exists_eq_left', true_and, and_true, if_true, if_false, decide_eq_false_iff_not, decide_eq_true_eq, Nat.reduceAdd, Nat.reduceLeDiff, Nat.reduceLT, Int.reduceAdd, Int.reduceSub, Int.reduceMul, Int.reduceNeg, not_true_eq_false, not_false_eq_true]
    first | exact ⟨rfl, ⟨C40, Kp.refl⟩, rfl, rfl⟩ | exact ⟨⟨C40, Kp.refl⟩, rfl, rfl⟩ | exact ⟨C40, Kp.refl⟩
  by_cases g4 : 1 ≤ q ∧ q ≤ 15
  case neg =>
    simp +decide (maxSteps := 4000000) (disch := omega) only [k149_0, k149_1, k149_2, k149_3, k149_4, k149_r, k149_s, F_il1, J_ifeq, F_il2, F_il3, F_il4, T_I, F_il5, J_ifne, T_ft, T_ret, F_al0, T_getR, X_aald, F_as6i, F_as6r, F_as6m, F_al6, T_getI, T_iclt, F_is7i, F_is7r, F_is7m, F_il7, J_ifle, c30, c44, c137, c138, c145, c150, c151, ↓s137, ↓s138, ↓s145, ↓s150, ↓s151, FX F, g1, g2, g3, g4, TK, lt_run hn, le43, Int.le_refl, Int.lt_irrefl, Option.some.injEq, exists_eq_left', true_and, and_true, if_true, if_false, decide_eq_false_iff_not, decide_eq_true_eq, Nat.reduceAdd, Nat.reduceLeDiff, Nat.reduceLT, Int.reduceAdd, Int.reduceSub, Int.reduceMul, Int.reduceNeg, not_true_eq_false, not_false_eq_true]
    refine ⟨_, rfl, ?_⟩
    simp +decide (maxSteps := 4000000) (disch := omega) only [k250_0, k250_1, k250_2, k250_3, k250_4, k250_5, k250_r, k250_s, F_il1, J_ifeq, F_il2, F_il3, F_il4, T_I, F_il5, J_ifne, T_ft, T_ret, F_al0, T_getR, X_iald, J_icne, T_getI, T_mul, T_add, F_is6i, F_is6r, F_is6m, F_il6, T_iast, T_dup2, c218, c219, c237, c251, c254, ↓s218, ↓s219, ↓s237, FM F, g1, g2, g3, g4, TK, lt_run hn, le43, Int.le_refl, Int.lt_irrefl, Option.some.injEq, exists_eq_left', true_and, and_true, if_true, if_false, decide_eq_false_iff_not, decide_eq_true_eq, Nat.reduceAdd, Nat.reduceLeDiff, Nat.reduceLT, Int.reduceAdd, Int.reduceSub, Int.reduceMul, Int.reduceNeg, not_true_eq_false, not_false_eq_true]
    first | exact ⟨rfl, ⟨C40, Kp.refl⟩, rfl, rfl⟩ | exact ⟨⟨C40, Kp.refl⟩, rfl, rfl⟩ | exact ⟨C40, Kp.refl⟩
  obtain ⟨P, c1, m1⟩ := C.2 a g1.1 (by omega)
  obtain ⟨c2, m2⟩ := C4.2 a g1.1 (by omega)
  have r := C.1 a
  have r1 := r.1
  have rG := C4.1 a
  have rG1 := rG.1
  have x1 := X48 F g1.1 (show a < 16 by omega)
  have B := DB_d g1.1 (show a < 16 by omega)
  have x2 := B.x E F
  have x3 := B.r
  have d1 := c2.1
  have d2 := m2.1
  by_cases g5 : (G a).1 < 6
  case neg =>
    have e6 : (G a).1 = 6 := by omega
    rw [e6] at d1 d2
    simp +decide (maxSteps := 4000000) (disch := omega) only [k149_0, k149_1, k149_2, k149_3, k149_4, k149_r, k149_s, F_il1, J_ifeq, F_il2, F_il3, F_il4, T_I, F_il5, J_ifne, T_ft, T_ret, F_al0, T_getR, X_aald, F_as6i, F_as6r, F_as6m, F_al6, T_getI, T_iclt, F_is7i, F_is7r, F_is7m, F_il7, J_ifle, c30, c44, c137, c138, c145, c150, c151, ↓s137, ↓s138, ↓s145, ↓s150, ↓s151, FX F, g1, g2, g3, g4, x1, x2, d1, d2, kd_48, ln_48, ln_719, TK, lt_run hn, le43, Int.le_refl, Int.lt_irrefl, Option.some.injEq, exists_eq_left', true_and, and_true, if_true, if_false, decide_eq_false_iff_not, decide_eq_true_eq, Nat.reduceAdd, Nat.reduceLeDiff, Nat.reduceLT, Int.reduceAdd, Int.reduceSub, Int.reduceMul, Int.reduceNeg, not_true_eq_false, not_false_eq_true]
    refine ⟨_, rfl, ?_⟩
    simp +decide (maxSteps := 4000000) (disch := omega) only [k250_0, k250_1, k250_2, k250_3, k250_4, k250_5, k250_r, k250_s, F_il1, J_ifeq, F_il2, F_il3, F_il4, T_I, F_il5, J_ifne, T_ft, T_ret, F_al0, T_getR, X_iald, J_icne, T_getI, T_mul, T_add, F_is6i, F_is6r, F_is6m, F_il6, T_iast, T_dup2, c218, c219, c237, c251, c254, ↓s218, ↓s219, ↓s237, FM F, g1, g2, g3, g4, x1, x2, d1, d2, kd_48, ln_48, ln_719, TK, lt_run hn, le43, Int.le_refl, Int.lt_irrefl, Option.some.injEq, exists_eq_left', true_and, and_true, if_true, if_false, decide_eq_false_iff_not, decide_eq_true_eq, Nat.reduceAdd, Nat.reduceLeDiff, Nat.reduceLT, Int.reduceAdd, Int.reduceSub, Int.reduceMul, Int.reduceNeg, not_true_eq_false, not_false_eq_true]
    first | exact ⟨rfl, ⟨C40, Kp.refl⟩, rfl, rfl⟩ | exact ⟨⟨C40, Kp.refl⟩, rfl, rfl⟩ | exact ⟨C40, Kp.refl⟩
  simp +decide (maxSteps := 4000000) (disch := omega) only [k149_0, k149_1, k149_2, k149_3, k149_4, k149_r, k149_s, F_il1, J_ifeq, F_il2, F_il3, F_il4, T_I, F_il5, J_ifne, T_ft, T_ret, F_al0, T_getR, X_aald, F_as6i, F_as6r, F_as6m, F_al6, T_getI, T_iclt, F_is7i, F_is7r, F_is7m, F_il7, J_ifle, c30, c44, c137, c138, c145, c150, c151, ↓s137, ↓s138, ↓s145, ↓s150, ↓s151, FX F, g1, g2, g3, g4, g5, x1, x2, d1, kd_48, ln_48, TK, lt_run hn, le43, Int.le_refl, Int.lt_irrefl, Option.some.injEq, exists_eq_left', true_and, and_true, if_true, if_false, decide_eq_false_iff_not, decide_eq_true_eq, Nat.reduceAdd, Nat.reduceLeDiff, Nat.reduceLT, Int.reduceAdd, Int.reduceSub, Int.reduceMul, Int.reduceNeg, not_true_eq_false, not_false_eq_true]
  refine w30 F hn B P r c1 g3 (by omega) (fun h1 e1 => ?_)
  obtain ⟨rS, hR⟩ : ∃ x, rg (wll (D a) e) (c * 48 + b) = x := ⟨_, rfl⟩
  obtain ⟨oS, hO⟩ : ∃ x, ro (wll (D a) e) (c * 48 + b) = x := ⟨_, rfl⟩
  rw [hR, hO]
  have cr := cnt_r rS
  have roP : oS = true → 0 < cnt rS := fun q => by rw [← hR]; exact ro_p (by rw [hO]; exact q)
  have ref : ∀ h2 : AHi, Ef (fun x k => Scv x k ∨ (x = 159 + 29 * a.toNat ∧ k = 5) ∨ (159 + 29 * a.toNat + 2 ≤ x ∧ x ≤ 159 + 29 * a.toNat + 4)) h h2 → ∀ Q2 : ARs → Prop, (∀ h4, (h4 704 36 = J (cnt rS) ∧ h4 704 37 = Bz oS) → Ef (fun x k => Sdr x k ∨ Scw x k) h2 h4 → cnt rS ≠ 0 → Tm E 250 (a_bl 250 4) [.ref 704, .int (J a), .int (J b), .int (J c), .int (J e), .int (J q), a_mk] [] h4 hr n Q2) → (∀ h4, (h4 704 36 = J (cnt rS) ∧ h4 704 37 = Bz oS) → Ef (fun x k => Sdr x k ∨ Scw x k) h2 h4 → cnt rS = 0 → Q2 (some (.int (J 0)), h4, hr, n)) → Sp E 250 [.ref 704, .int (J a), .int (J b), .int (J c), .int (J e), .int (J q)] h2 hr n Q2 := fun h2 e2 Q2 k1 k2 => by
    have m3 := m1.ef r g1.1 e2 (fun x k h1 h2 q => by unfold Scv at q; omega)
    have d3 : gA h2 719 a = J (G a).1 := by
      rw [e2.g (by unfold Scv; omega)]
      exact d2
    simp +decide (maxSteps := 4000000) (disch := omega) only [k250_0, k250_1, k250_2, k250_3, k250_5, k250_r, k250_s, F_il1, J_ifeq, F_il2, F_il3, F_il4, T_I, F_il5, J_ifne, T_ft, T_ret, F_al0, T_getR, X_iald, J_icne, T_getI, T_mul, T_add, F_is6i, F_is6r, F_is6m, F_il6, T_iast, T_dup2, c218, c219, c237, c251, c254, ↓s218, ↓s219, ↓s237, FM F, g1, g2, g3, g4, d3, ln_719, show ¬ (G a).1 = 6 by omega, TK, lt_run hn, le43, Int.le_refl, Int.lt_irrefl, Option.some.injEq, exists_eq_left', true_and, and_true, if_true, if_false, decide_eq_false_iff_not, decide_eq_true_eq, Nat.reduceAdd, Nat.reduceLeDiff, Nat.reduceLT, Int.reduceAdd, Int.reduceSub, Int.reduceMul, Int.reduceNeg, not_true_eq_false, not_false_eq_true]
    refine w251 F hn (by omega) r (W0 rfl) m3 (fun h3 P3 X3 e3 => ?_)
    simp +decide (maxSteps := 4000000) (disch := omega) only [k250_0, k250_1, k250_2, k250_3, k250_5, k250_r, k250_s, F_il1, J_ifeq, F_il2, F_il3, F_il4, T_I, F_il5, J_ifne, T_ft, T_ret, F_al0, T_getR, X_iald, J_icne, T_getI, T_mul, T_add, F_is6i, F_is6r, F_is6m, F_il6, T_iast, T_dup2, c218, c219, c237, c251, c254, ↓s218, ↓s219, ↓s237, FM F, TK, lt_run hn, le43, Int.le_refl, Int.lt_irrefl, Option.some.injEq, exists_eq_left', true_and, and_true, if_true, if_false, decide_eq_false_iff_not, decide_eq_true_eq, Nat.reduceAdd, Nat.reduceLeDiff, Nat.reduceLT, Int.reduceAdd, Int.reduceSub, Int.reduceMul, Int.reduceNeg, not_true_eq_false, not_false_eq_true]
    refine m254 F hn (by omega) g2.1 g2.2 r (m3.ef r g1.1 e3 (fun x k h1 h2 q => by unfold Sdr at q; omega)) X3 g3 P3 (fun h4 a4 e4 => ?_)
    rw [hR, hO] at a4
    have a41 := a4.1
    by_cases z : cnt rS = 0
    · have k3 := k2 h4 a4 ((e3.mono fun x k q => Or.inl q).trans (e4.mono fun x k q => Or.inr q)) z
      simp +decide (maxSteps := 4000000) (disch := omega) only [k250_0, k250_1, k250_2, k250_3, k250_5, k250_r, k250_s, F_il1, J_ifeq, F_il2, F_il3, F_il4, T_I, F_il5, J_ifne, T_ft, T_ret, F_al0, T_getR, X_iald, J_icne, T_getI, T_mul, T_add, F_is6i, F_is6r, F_is6m, F_il6, T_iast, T_dup2, c218, c219, c237, c251, c254, ↓s218, ↓s219, ↓s237, FM F, a41, z, TK, lt_run hn, le43, Int.le_refl, Int.lt_irrefl, Option.some.injEq, exists_eq_left', true_and, and_true, if_true, if_false, decide_eq_false_iff_not, decide_eq_true_eq, Nat.reduceAdd, Nat.reduceLeDiff, Nat.reduceLT, Int.reduceAdd, Int.reduceSub, Int.reduceMul, Int.reduceNeg, not_true_eq_false, not_false_eq_true]
      exact k3
    · have k3 := k1 h4 a4 ((e3.mono fun x k q => Or.inl q).trans (e4.mono fun x k q => Or.inr q)) z
      simp +decide (maxSteps := 4000000) (disch := omega) only [k250_0, k250_1, k250_2, k250_3, k250_5, k250_r, k250_s, F_il1, J_ifeq, F_il2, F_il3, F_il4, T_I, F_il5, J_ifne, T_ft, T_ret, F_al0, T_getR, X_iald, J_icne, T_getI, T_mul, T_add, F_is6i, F_is6r, F_is6m, F_il6, T_iast, T_dup2, c218, c219, c237, c251, c254, ↓s218, ↓s219, ↓s237, FM F, a41, z, TK, lt_run hn, le43, Int.le_refl, Int.lt_irrefl, Option.some.injEq, exists_eq_left', true_and, and_true, if_true, if_false, decide_eq_false_iff_not, decide_eq_true_eq, Nat.reduceAdd, Nat.reduceLeDiff, Nat.reduceLT, Int.reduceAdd, Int.reduceSub, Int.reduceMul, Int.reduceNeg, not_true_eq_false, not_false_eq_true]
      exact k3
  have sd : ∀ x k, Sdr x k ∨ Scw x k → sys x k = 0 := fun x k q => q.elim sdr0 scw0
  have same : ∀ h4, Ef (fun x k => Sdr x k ∨ Scw x k) h1 h4 → Po Cp4 4 4 h hr n h4 hr n := fun h4 e4 => by
    have ee : Ef (fun x k => sys x k = 0) h h4 := (e1.mono fun x k q => scv0 q).trans (e4.mono sd)
    exact ⟨⟨C40.sm (fun x k q => ee x k (fun z => by omega)), Kp.of ee (fun x k q => Or.inl q)⟩, rfl, rfl⟩
  cases o : oS with
  | true =>
    rw [if_pos rfl]
    simp +decide (maxSteps := 4000000) (disch := omega) only [k149_0, k149_1, k149_2, k149_3, k149_4, k149_r, k149_s, F_il1, J_ifeq, F_il2, F_il3, F_il4, T_I, F_il5, J_ifne, T_ft, T_ret, F_al0, T_getR, X_aald, F_as6i, F_as6r, F_as6m, F_al6, T_getI, T_iclt, F_is7i, F_is7r, F_is7m, F_il7, J_ifle, c30, c44, c137, c138, c145, c150, c151, ↓s137, ↓s138, ↓s145, ↓s150, ↓s151, FX F, TK, lt_run hn, le43, Int.le_refl, Int.lt_irrefl, Option.some.injEq, exists_eq_left', true_and, and_true, if_true, if_false, decide_eq_false_iff_not, decide_eq_true_eq, Nat.reduceAdd, Nat.reduceLeDiff, Nat.reduceLT, Int.reduceAdd, Int.reduceSub, Int.reduceMul, Int.reduceNeg, not_true_eq_false, not_false_eq_true]
    refine ⟨_, rfl, ?_⟩
    refine ref h1 (e1.mono fun x k q => Or.inl q) _ (fun h4 a4 e4 _ => ?_) (fun h4 a4 e4 z => ?_)
    · have a42 := a4.2
      rw [o, Bz_t] at a42
      simp +decide (maxSteps := 4000000) (disch := omega) only [k250_0, k250_1, k250_2, k250_3, k250_4, k250_5, k250_r, k250_s, F_il1, J_ifeq, F_il2, F_il3, F_il4, T_I, F_il5, J_ifne, T_ft, T_ret, F_al0, T_getR, X_iald, J_icne, T_getI, T_mul, T_add, F_is6i, F_is6r, F_is6m, F_il6, T_iast, T_dup2, c218, c219, c237, c251, c254, ↓s218, ↓s219, ↓s237, FM F, a42, TK, lt_run hn, le43, Int.le_refl, Int.lt_irrefl, Option.some.injEq, exists_eq_left', true_and, and_true, if_true, if_false, decide_eq_false_iff_not, decide_eq_true_eq, Nat.reduceAdd, Nat.reduceLeDiff, Nat.reduceLT, Int.reduceAdd, Int.reduceSub, Int.reduceMul, Int.reduceNeg, not_true_eq_false, not_false_eq_true]
      exact same h4 e4
    · have := roP o
      omega
  | false =>
    rw [if_neg (by decide)]
    by_cases z0 : cnt rS = 0
    · rw [z0]
      simp +decide (maxSteps := 4000000) (disch := omega) only [k149_0, k149_1, k149_2, k149_3, k149_4, k149_r, k149_s, F_il1, J_ifeq, F_il2, F_il3, F_il4, T_I, F_il5, J_ifne, T_ft, T_ret, F_al0, T_getR, X_aald, F_as6i, F_as6r, F_as6m, F_al6, T_getI, T_iclt, F_is7i, F_is7r, F_is7m, F_il7, J_ifle, c30, c44, c137, c138, c145, c150, c151, ↓s137, ↓s138, ↓s145, ↓s150, ↓s151, FX F, TK, lt_run hn, le43, Int.le_refl, Int.lt_irrefl, Option.some.injEq, exists_eq_left', true_and, and_true, if_true, if_false, decide_eq_false_iff_not, decide_eq_true_eq, Nat.reduceAdd, Nat.reduceLeDiff, Nat.reduceLT, Int.reduceAdd, Int.reduceSub, Int.reduceMul, Int.reduceNeg, not_true_eq_false, not_false_eq_true]
      refine ⟨_, rfl, ?_⟩
      exact ref h1 (e1.mono fun x k q => Or.inl q) _ (fun h4 a4 e4 z => absurd z0 z) (fun h4 a4 e4 z => ⟨rfl, same h4 e4⟩)
    · simp +decide (maxSteps := 4000000) (disch := omega) only [k149_0, k149_1, k149_2, k149_3, k149_4, k149_r, k149_s, F_il1, J_ifeq, F_il2, F_il3, F_il4, T_I, F_il5, J_ifne, T_ft, T_ret, F_al0, T_getR, X_aald, F_as6i, F_as6r, F_as6m, F_al6, T_getI, T_iclt, F_is7i, F_is7r, F_is7m, F_il7, J_ifle, c30, c44, c137, c138, c145, c150, c151, ↓s137, ↓s138, ↓s145, ↓s150, ↓s151, FX F, x2, show ¬ cnt rS ≤ 0 by omega, TK, lt_run hn, le43, Int.le_refl, Int.lt_irrefl, Option.some.injEq, exists_eq_left', true_and, and_true, if_true, if_false, decide_eq_false_iff_not, decide_eq_true_eq, Nat.reduceAdd, Nat.reduceLeDiff, Nat.reduceLT, Int.reduceAdd, Int.reduceSub, Int.reduceMul, Int.reduceNeg, not_true_eq_false, not_false_eq_true]
      refine w44 F hn B rG g5 (c2.ef e1 (fun x k h1 h2 q => by unfold Scv at q; omega)) (f := (b, c, e, q)) (fun h2 c4 e2 => ?_)
      simp +decide (maxSteps := 4000000) (disch := omega) only [k149_0, k149_1, k149_2, k149_3, k149_4, k149_r, k149_s, F_il1, J_ifeq, F_il2, F_il3, F_il4, T_I, F_il5, J_ifne, T_ft, T_ret, F_al0, T_getR, X_aald, F_as6i, F_as6r, F_as6m, F_al6, T_getI, T_iclt, F_is7i, F_is7r, F_is7m, F_il7, J_ifle, c30, c44, c137, c138, c145, c150, c151, ↓s137, ↓s138, ↓s145, ↓s150, ↓s151, TK, lt_run hn, le43, Int.le_refl, Int.lt_irrefl, Option.some.injEq, exists_eq_left', true_and, and_true, if_true, if_false, decide_eq_false_iff_not, decide_eq_true_eq, Nat.reduceAdd, Nat.reduceLeDiff, Nat.reduceLT, Int.reduceAdd, Int.reduceSub, Int.reduceMul, Int.reduceNeg, not_true_eq_false, not_false_eq_true]
      refine ⟨_, rfl, ?_⟩
      refine ref h2 ((e1.mono fun x k q => Or.inl q).trans (e2.mono fun x k q => Or.inr q)) _ (fun h4 a4 e4 _ => ?_) (fun h4 a4 e4 z => absurd z z0)
      have a42 := a4.2
      have a41 := a4.1
      rw [o, Bz_f] at a42
      have d4 : gA h4 719 a = J (G a).1 := by
        rw [e4.g (by unfold Sdr Scw Scf Swl; omega), e2.g (by omega), e1.g (by unfold Scv; omega)]
        exact d2
      simp +decide (maxSteps := 4000000) (disch := omega) only [k250_0, k250_1, k250_2, k250_3, k250_4, k250_5, k250_r, k250_s, F_il1, J_ifeq, F_il2, F_il3, F_il4, T_I, F_il5, J_ifne, T_ft, T_ret, F_al0, T_getR, X_iald, J_icne, T_getI, T_mul, T_add, F_is6i, F_is6r, F_is6m, F_il6, T_iast, T_dup2, c218, c219, c237, c251, c254, ↓s218, ↓s219, ↓s237, FM F, a41, a42, d4, ln_719, ln_720, ln_721, ln_722, ln_723, gs_o, sA_o, TK, lt_run hn, le43, Int.le_refl, Int.lt_irrefl, Option.some.injEq, exists_eq_left', true_and, and_true, if_true, if_false, decide_eq_false_iff_not, decide_eq_true_eq, Nat.reduceAdd, Nat.reduceLeDiff, Nat.reduceLT, Int.reduceAdd, Int.reduceSub, Int.reduceMul, Int.reduceNeg, not_true_eq_false, not_false_eq_true]
      have eb : Ef (fun x k => (Sdr x k ∨ Scw x k) ∨ (x = 719 ∧ k = a.toNat) ∨ (720 ≤ x ∧ x ≤ 723 ∧ 6 * a.toNat ≤ k ∧ k < 6 * a.toNat + 6)) h2 (sA (sA (sA (sA (sA h4 720 (6 * a + (G a).1) (J b)) 721 (6 * a + (G a).1) (J c)) 722 (6 * a + (G a).1) (J e)) 723 (6 * a + (G a).1) (J q)) 719 a (J ((G a).1 + 1))) := Ef.sA (Ef.sA (Ef.sA (Ef.sA (Ef.sA (e4.mono fun x k q => Or.inl q) (by omega)) (by omega)) (by omega)) (by omega)) (by omega)
      have ee : Ef (fun x k => Sfc a.toNat x k ∨ sys x k = 0) h (sA (sA (sA (sA (sA h4 720 (6 * a + (G a).1) (J b)) 721 (6 * a + (G a).1) (J c)) 722 (6 * a + (G a).1) (J e)) 723 (6 * a + (G a).1) (J q)) 719 a (J ((G a).1 + 1))) := by
        refine ((e1.mono fun x k q => Or.inr (scv0 q)).trans (e2.mono fun x k q => Or.inl ?_)).trans (eb.mono fun x k q => ?_)
        · unfold Sfc
          omega
        · rcases q with q | q
          · exact Or.inr (sd x k q)
          · refine Or.inl ?_
            unfold Sfc
            omega
      refine ⟨⟨⟨_, C4.upd g1.1 (by omega) (D' := addF (G a) (b, c, e, q)) (ee.mono fun x k q => q.elim Or.inl (fun z => Or.inr (by omega))) (addF_r rG g5 ⟨g2.1, g2.2, g3, g4⟩) (c4.ef eb (fun x k h1 h2 q => by unfold Sdr Scw Scf Swl at q; omega)) ⟨gs_s, fun i i0 i1 => ?_⟩⟩, Kp.of ee (fun x k q => ?_)⟩, rfl, rfl⟩
      · have i2 : i < (G a).1 + 1 := i1
        show FcM _ (6 * a + i) (if i = (G a).1 then (b, c, e, q) else (G a).2 i)
        unfold FcM
        rw [gs_o (a := 719) (by decide), gs_o (a := 719) (by decide), gs_o (a := 719) (by decide), gs_o (a := 719) (by decide), gs_o (a := 723) (by decide), gs_o (a := 723) (by decide), gs_o (a := 723) (by decide), gs_o (a := 722) (by decide), gs_o (a := 722) (by decide), gs_o (a := 721) (by decide)]
        by_cases ei : i = (G a).1
        · rw [if_pos ei, ei, gs_s, gs_s, gs_s, gs_s]
          exact ⟨⟨rfl, rfl⟩, rfl, rfl⟩
        · rw [if_neg ei, gs_k (by omega) (by omega) (by omega), gs_k (by omega) (by omega) (by omega), gs_k (by omega) (by omega) (by omega), gs_k (by omega) (by omega) (by omega), gs_o (by decide), gs_o (by decide), gs_o (by decide), gs_o (by decide), gs_o (by decide), gs_o (by decide)]
          have := (m2.2 i i0 (by omega)).ef e1 (fun x h1 h2 q => by unfold Scv at q; omega)
          have := this.ef e2 (fun x h1 h2 q => by omega)
          exact this.ef e4 (fun x h1 h2 q => by unfold Sdr Scw Scf Swl at q; omega)
      · rcases q with q | q
        · refine Or.inr (Or.inl ?_)
          rcases q with ⟨rfl, rfl⟩ | q | ⟨rfl, _⟩ | q
          · exact sysF5 (by omega)
          · exact sysF (d := a.toNat) (by omega) (by omega) (by omega)
          · rfl
          · exact sysF7 (by omega) (by omega)
        · exact Or.inl q
end RN
