/-! pictures: a layer of the class -/
section LY
variable {E : AEn} {h h' : AHi} {hr : AHr} {n : Nat} {Q : ARs → Prop} {e : PEn} {f i : Int}
def Sly (i : Int) (x _k : Nat) : Prop := x = 128 + i.toNat ∨ (49 ≤ x ∧ x ≤ 84) ∨ x = 139 ∨ x = 140
theorem sys128 {a k : Nat} (h1 : 127 ≤ a) (h2 : a < 144) : sys a k = 0 := by
  rw [sys_A (by omega)]
  unfold sysA
  iterate 21 rw [if_neg (by omega)]
  rw [if_pos (by omega)]
theorem Sly_0 {x k : Nat} (hi : 0 ≤ i ∧ i < 10) (q : Sly i x k) : Zs x k := by
  unfold Sly at q
  rcases q with q | q | q | q
  · exact Or.inl (sys128 (by omega) (by omega))
  · exact Or.inl (sys_0 (by omega) (by omega))
  · exact Or.inl (sys128 (by omega) (by omega))
  · exact Or.inl (sys128 (by omega) (by omega))
theorem w198 (F : FH hr) (hn : 775 ≤ n) (W : PW h hr e) (hi : 0 ≤ i ∧ i < e.m) (hk : e.K i = 1) (hf : 0 ≤ f ∧ f ≤ 119)
    (k : ∀ h', Ef (Sly i) h h' → PA h' (128 + i.toNat) (LyP e f (e.T i 0) (e.T i 1)) → Q (none, h', hr, n)) : Sp E 198 [.ref 43, .int (J i), .int (J f)] h hr n Q := by
  obtain ⟨c3, c4, ⟨p1, p2⟩, ⟨r1, r2, r3⟩, ⟨d1, d2⟩, ⟨w1, w2, w3⟩, cc, n1, n2, n3, n4, n5, n6⟩ := id W
  have im : i < 10 := by omega
  have x1 := X127 E F hi.1 im
  have x2 := X115 E F hi.1 (show i < 11 by omega)
  obtain ⟨l0, l1⟩ := (n3 i hi.1 hi.2).2.1 hk
  obtain ⟨_, _, t1⟩ := n6 i hi.1 hi.2
  have t2 := (t1 0 (by decide) (by rw [hk]; decide)).1
  have t3 := (t1 1 (by decide) (by rw [hk]; decide)).1
  have x3 := X90 E F l0.1 (show e.T i 0 < 4 by omega)
  obtain ⟨a1, _, a2⟩ := r3 (e.T i 0) l0.1 (by omega)
  have rN := r1 (e.T i 0)
  generalize hl : e.T i 0 = l at *
  generalize hp : e.T i 1 = p at *
  simp +decide (maxSteps := 4000000) (disch := omega) only [k198_0, k198_1, k198_2, k198_3, k198_5, k198_7, k198_r, k198_s, F_al0, T_getR, F_il1, X_aald, T_I, X_iald, F_is3i, F_is3r, F_is3m, F_il3, F_il2, F_is4i, F_is4r, F_is4m, F_il4, J_icne, T_ret, T_getI, J_ifle, T_goto, T_ft, F_is5i, F_is5r, F_is5m, F_il5, T_icge, T_iast, F_inc5i, F_inc5r, F_inc5m, c37, c49, c62, c94, c191, c356, ↓s62, ↓s191, FX F, x1, x2, t2, kd_127, ln_127, kd_115, ln_115, ↓reduceIte, TK, lt_run hn, le43, Int.le_refl, Int.lt_irrefl, Option.some.injEq, exists_eq_left', true_and, and_true, if_true, if_false, decide_eq_false_iff_not, decide_eq_true_eq, Nat.reduceAdd, Nat.reduceLeDiff, Nat.reduceLT, Int.reduceAdd, Int.reduceSub, Int.reduceMul, Int.reduceNeg, not_true_eq_false, not_false_eq_true]
  refine w356 hn (v := -1) x1.2.1 x1.2.2 (by omega) (fun k1 q1 e1 => ?_)
  have z1 : ∀ {h1}, Ef (Sly i) h h1 → PW h1 hr e := fun w => W.z (w.mono fun x k q => Sly_0 ⟨hi.1, im⟩ q)
  have e1' : Ef (Sly i) h k1 := e1.mono fun x k q => Or.inl q
  have s1 := fun {Q} => s62 (E := E) (Q := Q) (h := k1) F hn l0.1 (show l < 4 by omega) rN (show -2147483648 ≤ f by omega) (show f < 2147483648 by omega) ((z1 e1').2.2.2.1.2.2 l l0.1 (by omega)).1 (fun f f0 f1 => (((z1 e1').2.2.2.1.2.2 l l0.1 (by omega)).2.2 f f0 f1).1)
  have rr : -1 ≤ row (e.N l) (e.R l) f ∧ row (e.N l) (e.R l) f ≤ 15 := by
    unfold row
    split
    · exact r2 l f
    · omega
  by_cases g0 : row (e.N l) (e.R l) f = -1
  · simp +decide (maxSteps := 4000000) (disch := omega) only [k198_0, k198_1, k198_2, k198_3, k198_5, k198_7, k198_r, k198_s, F_al0, T_getR, F_il1, X_aald, T_I, X_iald, F_is3i, F_is3r, F_is3m, F_il3, F_il2, F_is4i, F_is4r, F_is4m, F_il4, J_icne, T_ret, T_getI, J_ifle, T_goto, T_ft, F_is5i, F_is5r, F_is5m, F_il5, T_icge, T_iast, F_inc5i, F_inc5r, F_inc5m, c37, c49, c62, c94, c191, c356, ↓s191, FX F, x3, ↓s1, g0, kd_90, ln_90, ↓reduceIte, TK, lt_run hn, le43, Int.le_refl, Int.lt_irrefl, Option.some.injEq, exists_eq_left', true_and, and_true, if_true, if_false, decide_eq_false_iff_not, decide_eq_true_eq, Nat.reduceAdd, Nat.reduceLeDiff, Nat.reduceLT, Int.reduceAdd, Int.reduceSub, Int.reduceMul, Int.reduceNeg, not_true_eq_false, not_false_eq_true]
    refine k k1 e1' ?_
    unfold LyP
    rw [if_pos g0]
    exact q1
  have hd : 0 ≤ row (e.N l) (e.R l) f ∧ row (e.N l) (e.R l) f < 16 := by omega
  have LE : LyP e f l p = pcL (ptD (wgD (e.D (row (e.N l) (e.R l) f)) (ofL e l f)) (e.G (row (e.N l) (e.R l) f))) (e.P p) (e.dp l) (cmv e.cm e.F e.X f 0) (cmv e.cm e.F e.Y f 0) (cmv e.cm e.F e.Z f 64) := by
    unfold LyP
    rw [if_neg g0]
  generalize row (e.N l) (e.R l) f = d at *
  have y1 := X48 F hd.1 hd.2
  have B := DB_d hd.1 hd.2
  have y2 := B.x E F
  have R := c3.1 d
  have RG := c4.1 d
  have RW := wgD_r R (ofL e l f)
  have tail : ∀ h2 : AHi, Ef (Sly i) h h2 → PA h2 (128 + i.toNat) (fun _ => -1) → PA h2 80 (ptD (wgD (e.D d) (ofL e l f)) (e.G d)) → Tm E 198 (a_bl 198 3) [.ref 43, .int (J i), .int (J f), .int (J l), .int (J d), a_mk] [] h2 hr n Q := fun h2 e2 P2 P3 => by
    have cx := cmv_r cc f
    have dl := d1 l
    have fx : ∀ {h3}, Ef (Sly i) h h3 → (∀ l, 0 ≤ l → l < 4 → h3 (623 + 3 * l.toNat) 4 = J (e.dp l)) ∧ Cm e.cm e.F e.X e.Y e.Z e.F' e.X' e.Y' e.Z' h3 := fun w => ⟨fun l l0 l1 => ((z1 w).2.2.2.2.1.2 l l0 l1).1, (z1 w).2.2.2.2.2.2.1⟩
    rw [k198_3]
    simp +decide (maxSteps := 4000000) (disch := omega) only [k198_0, k198_1, k198_2, k198_3, k198_5, k198_7, k198_r, k198_s, F_al0, T_getR, F_il1, X_aald, T_I, X_iald, F_is3i, F_is3r, F_is3m, F_il3, F_il2, F_is4i, F_is4r, F_is4m, F_il4, J_icne, T_ret, T_getI, J_ifle, T_goto, T_ft, F_is5i, F_is5r, F_is5m, F_il5, T_icge, T_iast, F_inc5i, F_inc5r, F_inc5m, c37, c49, c62, c94, c191, c356, ↓s62, ↓s191, ↓reduceIte, TK, lt_run hn, le43, Int.le_refl, Int.lt_irrefl, Option.some.injEq, exists_eq_left', true_and, and_true, if_true, if_false, decide_eq_false_iff_not, decide_eq_true_eq, Nat.reduceAdd, Nat.reduceLeDiff, Nat.reduceLT, Int.reduceAdd, Int.reduceSub, Int.reduceMul, Int.reduceNeg, not_true_eq_false, not_false_eq_true]
    refine T_for (σ := Unit) (fun x _ => [.ref 43, .int (J i), .int (J f), .int (J l), .int (J d), .int (J x)]) (fun x _ h' => Ef (fun a _ => a = 139) h2 h' ∧ ∀ x', 0 ≤ x' → x' < x → gA h' 139 x' = J (plc 24 (e.dp l) (cmv e.cm e.F e.X f 0) (cmv e.cm e.F e.Z f 64) x')) 0 48 ?_ ?_ 0 () h2 (by omega) (by omega) ⟨Ef.refl, fun x' _ _ => by omega⟩
    · rintro x _ h3 x0 x1' ⟨e3, c1⟩ ih
      have e3' : Ef (Sly i) h h3 := e2.trans (e3.mono fun a k q => Or.inr (Or.inr (Or.inl q)))
      have s2 := fun {Q} => s191 (E := E) (Q := Q) F hn (fx e3').2 (fx e3').1 d1 (p := x) (a := 0) (l := l) (f := f) (by omega) (Or.inl rfl) (by omega) hf
      simp only [if_true] at s2
      rw [k198_4]
      simp +decide (maxSteps := 4000000) (disch := omega) only [k198_0, k198_1, k198_2, k198_3, k198_5, k198_7, k198_r, k198_s, F_al0, T_getR, F_il1, X_aald, T_I, X_iald, F_is3i, F_is3r, F_is3m, F_il3, F_il2, F_is4i, F_is4r, F_is4m, F_il4, J_icne, T_ret, T_getI, J_ifle, T_goto, T_ft, F_is5i, F_is5r, F_is5m, F_il5, T_icge, T_iast, F_inc5i, F_inc5r, F_inc5m, c37, c49, c62, c94, c191, c356, ↓s62, FX F, ↓s2, ln_139, show ¬ 48 ≤ x by omega, ↓reduceIte, TK, lt_run hn, le43, Int.le_refl, Int.lt_irrefl, Option.some.injEq, exists_eq_left', true_and, and_true, if_true, if_false, decide_eq_false_iff_not, decide_eq_true_eq, Nat.reduceAdd, Nat.reduceLeDiff, Nat.reduceLT, Int.reduceAdd, Int.reduceSub, Int.reduceMul, Int.reduceNeg, not_true_eq_false, not_false_eq_true]
      refine ih () _ ⟨e3.sA rfl, fun x' q0 q1 => ?_⟩
      by_cases g : x' = x
      · rw [g, gs_s]
      · rw [gs_k x0 q0 g]
        exact c1 x' q0 (by omega)
    rintro _ h3 ⟨e3, c1⟩
    have e3' : Ef (Sly i) h h3 := e2.trans (e3.mono fun a k q => Or.inr (Or.inr (Or.inl q)))
    rw [k198_4]
    simp +decide (maxSteps := 4000000) (disch := omega) only [k198_0, k198_1, k198_2, k198_3, k198_5, k198_7, k198_r, k198_s, F_al0, T_getR, F_il1, X_aald, T_I, X_iald, F_is3i, F_is3r, F_is3m, F_il3, F_il2, F_is4i, F_is4r, F_is4m, F_il4, J_icne, T_ret, T_getI, J_ifle, T_goto, T_ft, F_is5i, F_is5r, F_is5m, F_il5, T_icge, T_iast, F_inc5i, F_inc5r, F_inc5m, c37, c49, c62, c94, c191, c356, ↓s62, ↓s191, ↓reduceIte, TK, lt_run hn, le43, Int.le_refl, Int.lt_irrefl, Option.some.injEq, exists_eq_left', true_and, and_true, if_true, if_false, decide_eq_false_iff_not, decide_eq_true_eq, Nat.reduceAdd, Nat.reduceLeDiff, Nat.reduceLT, Int.reduceAdd, Int.reduceSub, Int.reduceMul, Int.reduceNeg, not_true_eq_false, not_false_eq_true]
    refine T_for (σ := Unit) (fun x _ => [.ref 43, .int (J i), .int (J f), .int (J l), .int (J d), .int (J x)]) (fun x _ h' => Ef (fun a _ => a = 140) h3 h' ∧ ∀ x', 0 ≤ x' → x' < x → gA h' 140 x' = J (plc 16 (e.dp l) (cmv e.cm e.F e.Y f 0) (cmv e.cm e.F e.Z f 64) x')) 0 32 ?_ ?_ 0 () h3 (by omega) (by omega) ⟨Ef.refl, fun x' _ _ => by omega⟩
    · rintro x _ h4 x0 x1' ⟨e4, c2⟩ ih
      have e4' : Ef (Sly i) h h4 := e3'.trans (e4.mono fun a k q => Or.inr (Or.inr (Or.inr q)))
      have s2 := fun {Q} => s191 (E := E) (Q := Q) F hn (fx e4').2 (fx e4').1 d1 (p := x) (a := 1) (l := l) (f := f) (by omega) (Or.inr rfl) (by omega) hf
      simp +decide only [if_false] at s2
      rw [k198_6]
      simp +decide (maxSteps := 4000000) (disch := omega) only [k198_0, k198_1, k198_2, k198_3, k198_5, k198_7, k198_r, k198_s, F_al0, T_getR, F_il1, X_aald, T_I, X_iald, F_is3i, F_is3r, F_is3m, F_il3, F_il2, F_is4i, F_is4r, F_is4m, F_il4, J_icne, T_ret, T_getI, J_ifle, T_goto, T_ft, F_is5i, F_is5r, F_is5m, F_il5, T_icge, T_iast, F_inc5i, F_inc5r, F_inc5m, c37, c49, c62, c94, c191, c356, ↓s62, FX F, ↓s2, ln_140, show ¬ 32 ≤ x by omega, ↓reduceIte, TK, lt_run hn, le43, Int.le_refl, Int.lt_irrefl, Option.some.injEq, exists_eq_left', true_and, and_true, if_true, if_false, decide_eq_false_iff_not, decide_eq_true_eq, Nat.reduceAdd, Nat.reduceLeDiff, Nat.reduceLT, Int.reduceAdd, Int.reduceSub, Int.reduceMul, Int.reduceNeg, not_true_eq_false, not_false_eq_true]
      refine ih () _ ⟨e4.sA rfl, fun x' q0 q1 => ?_⟩
      by_cases g : x' = x
      · rw [g, gs_s]
      · rw [gs_k x0 q0 g]
        exact c2 x' q0 (by omega)
    rintro _ h4 ⟨e4, c2⟩
    have e4' : Ef (Sly i) h h4 := e3'.trans (e4.mono fun a k q => Or.inr (Or.inr (Or.inr q)))
    have W4 := z1 e4'
    obtain ⟨_, _, ⟨_, v2⟩, _, _, _, _, _, _, _, _, _, v6⟩ := W4
    have u3 := ((v6 i hi.1 hi.2).2.2 1 (by decide) (by rw [hk]; decide)).1
    rw [hp] at u3
    have x5 := X85 E F l1.1 (show p < 4 by omega)
    rw [k198_6]
    simp +decide (maxSteps := 4000000) (disch := omega) only [k198_0, k198_1, k198_2, k198_3, k198_5, k198_7, k198_r, k198_s, F_al0, T_getR, F_il1, X_aald, T_I, X_iald, F_is3i, F_is3r, F_is3m, F_il3, F_il2, F_is4i, F_is4r, F_is4m, F_il4, J_icne, T_ret, T_getI, J_ifle, T_goto, T_ft, F_is5i, F_is5r, F_is5m, F_il5, T_icge, T_iast, F_inc5i, F_inc5r, F_inc5m, c37, c49, c62, c94, c191, c356, ↓s62, ↓s191, FX F, x2, u3, x5, kd_115, ln_115, kd_85, ln_85, ↓reduceIte, TK, lt_run hn, le43, Int.le_refl, Int.lt_irrefl, Option.some.injEq, exists_eq_left', true_and, and_true, if_true, if_false, decide_eq_false_iff_not, decide_eq_true_eq, Nat.reduceAdd, Nat.reduceLeDiff, Nat.reduceLT, Int.reduceAdd, Int.reduceSub, Int.reduceMul, Int.reduceNeg, not_true_eq_false, not_false_eq_true]
    refine w94 F hn ⟨hi.1, im⟩ (P := ptD (wgD (e.D d) (ofL e l f)) (e.G d)) (pal := e.P p) x5.2.1 x5.2.2 (by omega) (fun q => ptD_r RW RG q) ((P3.ef e3 (fun k => by decide)).ef e4 (fun k => by decide)) (fun c b1 b2 => (v2 p c l1.1 (by omega) b1 b2).1) dl cx.1 cx.2.1 cx.2.2 (fun x x0 x1 => (e4.g (by decide)).trans (c1 x x0 x1)) c2 ((P2.ef e3 (fun k => by omega)).ef e4 (fun k => by omega)) (fun h5 q5 e5 => ?_)
    simp +decide (maxSteps := 4000000) (disch := omega) only [k198_0, k198_1, k198_2, k198_3, k198_5, k198_7, k198_r, k198_s, F_al0, T_getR, F_il1, X_aald, T_I, X_iald, F_is3i, F_is3r, F_is3m, F_il3, F_il2, F_is4i, F_is4r, F_is4m, F_il4, J_icne, T_ret, T_getI, J_ifle, T_goto, T_ft, F_is5i, F_is5r, F_is5m, F_il5, T_icge, T_iast, F_inc5i, F_inc5r, F_inc5m, c37, c49, c62, c94, c191, c356, ↓s62, ↓s191, ↓reduceIte, TK, lt_run hn, le43, Int.le_refl, Int.lt_irrefl, Option.some.injEq, exists_eq_left', true_and, and_true, if_true, if_false, decide_eq_false_iff_not, decide_eq_true_eq, Nat.reduceAdd, Nat.reduceLeDiff, Nat.reduceLT, Int.reduceAdd, Int.reduceSub, Int.reduceMul, Int.reduceNeg, not_true_eq_false, not_false_eq_true]
    refine k h5 (e4'.trans (e5.mono fun x k q => Or.inl q)) ?_
    rw [LE]
    exact q5
  have e6 := ((z1 e1').2.2.2.2.2.1.2.2 l l0.1 (by omega)).1
  have vr := w1 l
  have DC1 := (z1 e1').1
  have FC1 := (z1 e1').2.1
  obtain ⟨Pd, Cd, _⟩ := DC1.2 d hd.1 hd.2
  obtain ⟨Cg, _⟩ := FC1.2 d hd.1 hd.2
  by_cases g1 : e.V l = 0
  · have eo : ofL e l f = off0 := by unfold ofL; rw [if_pos g1]
    rw [eo, wgD_0 R] at tail
    simp +decide (maxSteps := 4000000) (disch := omega) only [k198_0, k198_1, k198_2, k198_5, k198_7, k198_r, k198_s, F_al0, T_getR, F_il1, X_aald, T_I, X_iald, F_is3i, F_is3r, F_is3m, F_il3, F_il2, F_is4i, F_is4r, F_is4m, F_il4, J_icne, T_ret, T_getI, J_ifle, T_goto, T_ft, F_is5i, F_is5r, F_is5m, F_il5, T_icge, T_iast, F_inc5i, F_inc5r, F_inc5m, c37, c49, c62, c94, c191, c356, ↓s191, FX F, x3, ↓s1, g0, e6, kd_90, ln_90, y1, y2, kd_48, ln_48, g1, ↓reduceIte, TK, lt_run hn, le43, Int.le_refl, Int.lt_irrefl, Option.some.injEq, exists_eq_left', true_and, and_true, if_true, if_false, decide_eq_false_iff_not, decide_eq_true_eq, Nat.reduceAdd, Nat.reduceLeDiff, Nat.reduceLT, Int.reduceAdd, Int.reduceSub, Int.reduceMul, Int.reduceNeg, not_true_eq_false, not_false_eq_true]
    refine w37 F hn B Pd R Cd RG Cg (fun h2 q2 e2 => ?_)
    simp +decide (maxSteps := 4000000) (disch := omega) only [k198_0, k198_1, k198_2, k198_5, k198_7, k198_r, k198_s, F_al0, T_getR, F_il1, X_aald, T_I, X_iald, F_is3i, F_is3r, F_is3m, F_il3, F_il2, F_is4i, F_is4r, F_is4m, F_il4, J_icne, T_ret, T_getI, J_ifle, T_goto, T_ft, F_is5i, F_is5r, F_is5m, F_il5, T_icge, T_iast, F_inc5i, F_inc5r, F_inc5m, c37, c49, c62, c94, c191, c356, ↓s62, ↓s191, ↓reduceIte, TK, lt_run hn, le43, Int.le_refl, Int.lt_irrefl, Option.some.injEq, exists_eq_left', true_and, and_true, if_true, if_false, decide_eq_false_iff_not, decide_eq_true_eq, Nat.reduceAdd, Nat.reduceLeDiff, Nat.reduceLT, Int.reduceAdd, Int.reduceSub, Int.reduceMul, Int.reduceNeg, not_true_eq_false, not_false_eq_true]
    refine tail h2 (e1'.trans (e2.mono fun x k q => ?_)) (q1.ef e2 (fun k q => by unfold Scv at q; omega)) q2
    unfold Scv at q
    unfold Sly
    omega
  · have eo : ofL e l f = fun i j a => wgl (e.S l) (e.V l) (e.M l) f i j a := by unfold ofL; rw [if_neg g1]
    simp +decide (maxSteps := 4000000) (disch := omega) only [k198_0, k198_1, k198_2, k198_5, k198_7, k198_r, k198_s, F_al0, T_getR, F_il1, X_aald, T_I, X_iald, F_is3i, F_is3r, F_is3m, F_il3, F_il2, F_is4i, F_is4r, F_is4m, F_il4, J_icne, T_ret, T_getI, J_ifle, T_goto, T_ft, F_is5i, F_is5r, F_is5m, F_il5, T_icge, T_iast, F_inc5i, F_inc5r, F_inc5m, c37, c49, c62, c94, c191, c356, ↓s191, FX F, x3, ↓s1, g0, e6, kd_90, ln_90, y1, y2, kd_48, ln_48, kd_49, show ¬ e.V l ≤ 0 by omega, show 0 < e.V l by omega, ↓reduceIte, TK, lt_run hn, le43, Int.le_refl, Int.lt_irrefl, Option.some.injEq, exists_eq_left', true_and, and_true, if_true, if_false, decide_eq_false_iff_not, decide_eq_true_eq, Nat.reduceAdd, Nat.reduceLeDiff, Nat.reduceLT, Int.reduceAdd, Int.reduceSub, Int.reduceMul, Int.reduceNeg, not_true_eq_false, not_false_eq_true]
    refine w49 F hn (by omega) (by omega) (w2 l) hf B (by omega) Pd R RG Cd Cg e6.1 e6.2.1 e6.2.2 (fun h2 e2 q2 q3 => ?_)
    simp +decide (maxSteps := 4000000) (disch := omega) only [k198_0, k198_1, k198_2, k198_5, k198_7, k198_r, k198_s, F_al0, T_getR, F_il1, X_aald, T_I, X_iald, F_is3i, F_is3r, F_is3m, F_il3, F_il2, F_is4i, F_is4r, F_is4m, F_il4, J_icne, T_ret, T_getI, J_ifle, T_goto, T_ft, F_is5i, F_is5r, F_is5m, F_il5, T_icge, T_iast, F_inc5i, F_inc5r, F_inc5m, c37, c49, c62, c94, c191, c356, ↓s62, ↓s191, FX F, kd_49, ↓reduceIte, TK, lt_run hn, le43, Int.le_refl, Int.lt_irrefl, Option.some.injEq, exists_eq_left', true_and, and_true, if_true, if_false, decide_eq_false_iff_not, decide_eq_true_eq, Nat.reduceAdd, Nat.reduceLeDiff, Nat.reduceLT, Int.reduceAdd, Int.reduceSub, Int.reduceMul, Int.reduceNeg, not_true_eq_false, not_false_eq_true]
    refine w37 F hn DB_49 (PS49 F) (wgD_r R _) q2 RG q3 (fun h3 q4 e3 => ?_)
    simp +decide (maxSteps := 4000000) (disch := omega) only [k198_0, k198_1, k198_2, k198_5, k198_7, k198_r, k198_s, F_al0, T_getR, F_il1, X_aald, T_I, X_iald, F_is3i, F_is3r, F_is3m, F_il3, F_il2, F_is4i, F_is4r, F_is4m, F_il4, J_icne, T_ret, T_getI, J_ifle, T_goto, T_ft, F_is5i, F_is5r, F_is5m, F_il5, T_icge, T_iast, F_inc5i, F_inc5r, F_inc5m, c37, c49, c62, c94, c191, c356, ↓s62, ↓s191, ↓reduceIte, TK, lt_run hn, le43, Int.le_refl, Int.lt_irrefl, Option.some.injEq, exists_eq_left', true_and, and_true, if_true, if_false, decide_eq_false_iff_not, decide_eq_true_eq, Nat.reduceAdd, Nat.reduceLeDiff, Nat.reduceLT, Int.reduceAdd, Int.reduceSub, Int.reduceMul, Int.reduceNeg, not_true_eq_false, not_false_eq_true]
    rw [← eo] at q4
    refine tail h3 ((e1'.trans (e2.mono fun x k q => ?_)).trans (e3.mono fun x k q => ?_)) ((q1.ef e2 (fun k q => by unfold Sdd at q; omega)).ef e3 (fun k q => by unfold Scv at q; omega)) q4
    · unfold Sdd at q
      unfold Sly
      omega
    · unfold Scv at q
      unfold Sly
      omega
end LY
