/-! node -/
def PoN (h : AHi) (hr : AHr) (n : Nat) : AHi → AHr → Nat → Prop := fun h' hr' n' => ((Cp16 h' hr' ∧ CpT h') ∧ Kp 1 16 h h') ∧ (FH hr' ∧ ∀ a q, a ≠ 114 → hr' a q = hr a q) ∧ n' = n
section NP
variable {E : AEn} {h h' : AHi} {hr : AHr} {n : Nat} {Q : ARs → Prop} {t m : Int} {b : Int → Int}
theorem sys_ne {a k : Nat} (q : Sne a k) : sys a k = 0 ∨ sys a k = 1 := by
  rcases q with ⟨rfl, rfl | rfl | rfl | rfl⟩ | rfl | rfl
  · exact Or.inr rfl
  all_goals exact Or.inl rfl
theorem Pnode (F : FH hr) (hn : 775 ≤ n) (C : Cp16 h hr) (CT : CpT h) : Pr2 E 193 315 [] h hr n (PoN h hr n) := by
  obtain ⟨m, K, T, hm, hK, hN, hc, hq, hi⟩ := C
  obtain ⟨t, b, TT, m1, m2⟩ := CT
  have OT := Ob_tape (E := E) F hn
  have mr : ∀ {h' : AHi}, Ef (fun x k => x < 700) h h' → h' 704 2 = J t ∧ (∀ i, 0 ≤ i → i < t → gA h' 705 i = J (b i)) ∧ h' 704 82 = J m := fun e => by
    refine ⟨?_, fun i i0 i1 => ?_, ?_⟩
    · rw [e 704 2 (by omega)]
      exact m1
    · rw [e.g (by omega)]
      exact m2 i i0 i1
    · rw [e 704 82 (by omega)]
      exact hc.2
  have sy : ∀ {a q : Nat}, a = 116 + m.toNat ∨ sys a q = 0 ∨ sys a q = 1 → sys a q = 0 ∨ sys a q = 1 ∨ sys a q = 16 := fun {a q} z => by
    rcases z with rfl | z
    · exact Or.inr (Or.inr (sys116 (by omega)))
    · omega
  /- a call that keeps the nodes -/
  have keep : ∀ h4 h6 : AHi, Ef (Snk m) h h4 → Ef Sne (hI h4 44 1 (J 0)) h6 → h6 704 2 = J 0 → PoN h hr n h6 hr n := fun h4 h6 e4 e6 c6 => by
    have e7 : Ef (fun a q => a = 116 + m.toNat ∨ sys a q = 0 ∨ sys a q = 1) h h6 := Ef.trans (Ef.hI (e4.mono fun a q z => by
      rcases z with ⟨rfl, rfl | rfl⟩ | z
      · exact Or.inr (Or.inl rfl)
      · exact Or.inr (Or.inl rfl)
      · exact Or.inl z) (Or.inr (Or.inr rfl))) (e6.mono fun a q z => Or.inr (sys_ne z))
    have n1 : ∀ q, ¬ (764 = 116 + m.toNat ∨ sys 764 q = 0 ∨ sys 764 q = 1) := fun q z => by
      have : sys 764 q = 16 := rfl
      omega
    have n2 : ∀ q, ¬ (765 = 116 + m.toNat ∨ sys 765 q = 0 ∨ sys 765 q = 1) := fun q z => by
      have : sys 765 q = 16 := rfl
      omega
    refine ⟨⟨⟨⟨m, K, T, hm, hK, hN, ⟨?_, ?_⟩, hq, fun i i0 i1 => ?_⟩, CpT_0 ?_ c6⟩, e7.mono fun a q z => sy z⟩, ⟨F, fun _ _ _ => rfl⟩, rfl⟩
    · rw [e7 113 2 (fun z => by
        have : sys 113 2 = 16 := rfl
        omega)]
      exact hc.1
    · rw [e7 704 82 (fun z => by
        have : sys 704 82 = 16 := rfl
        omega)]
      exact hc.2
    · obtain ⟨a1, a2, a3⟩ := hi i i0 i1
      rw [e7.g (n1 _)]
      refine ⟨a1, a2, fun q q0 q1 => ?_⟩
      rw [e7.g (fun z => by
        have : sys (116 + i.toNat) q.toNat = 16 := sys116 (by omega)
        omega), e7.g (n2 _)]
      exact a3 q q0 q1
    · rw [e6 44 1 (fun z => by unfold Sne at z; omega)]
      exact hI_s
  have e44 : ∀ {h4 : AHi}, Ef (Snk m) h h4 → Ef (fun x k => x < 700) h (hI h4 44 1 (J 0)) := fun e4 => Ef.hI (e4.mono fun a q z => by unfold Snk at z; omega) (by decide)
  unfold Pr2
  simp +decide (maxSteps := 4000000) (disch := omega) only [k193_0, k193_r, k193_s, F_al0, T_getR, F_is1i, F_is1r, F_is1m, F_il1, T_ret, c25, c90, ↓s25, FX F, kd_44, kd_113, ↓reduceIte, TK, lt_run hn, le43, Int.le_refl, Int.lt_irrefl, Option.some.injEq, exists_eq_left', true_and, and_true, if_true, if_false, decide_eq_false_iff_not, decide_eq_true_eq, Nat.reduceAdd, Nat.reduceLeDiff, Nat.reduceLT, Int.reduceAdd, Int.reduceSub, Int.reduceMul, Int.reduceNeg, not_true_eq_false, not_false_eq_true]
  refine w90 F hn TT hm hc.1 (fun h4 e he g1 e4 => ?_) (fun h4 k e he er N nf e4 => ?_) (fun h4 k e he er N nf m10 e4 => ?_) (fun h4 k e he er N nf m10 e4 d4 r4 => ?_)
  · simp +decide (maxSteps := 4000000) (disch := omega) only [k193_0, k193_r, k193_s, F_al0, T_getR, F_is1i, F_is1r, F_is1m, F_il1, T_ret, c25, c90, FX F, ↓s25 OT, kd_44, ↓reduceIte, TK, lt_run hn, le43, Int.le_refl, Int.lt_irrefl, Option.some.injEq, exists_eq_left', true_and, and_true, if_true, if_false, decide_eq_false_iff_not, decide_eq_true_eq, Nat.reduceAdd, Nat.reduceLeDiff, Nat.reduceLT, Int.reduceAdd, Int.reduceSub, Int.reduceMul, Int.reduceNeg, not_true_eq_false, not_false_eq_true]
    refine ⟨_, rfl, ?_⟩
    obtain ⟨y1, y2, y3⟩ := mr (e44 e4)
    exact w315 F hn TT.1 TT.2.1 y1 y2 hm y3 (fun h6 e' he' _ c6 e6 => ⟨rfl, keep h4 h6 e4 e6 c6⟩) (fun h6 k' e' he' N' => absurd N'.2.1 (by rw [he', ← he]; exact g1 k' N'.1)) (fun h6 k' e' he' N' => absurd N'.2.1 (by rw [he', ← he]; exact g1 k' N'.1)) (fun h6 k' e' he' N' => absurd N'.2.1 (by rw [he', ← he]; exact g1 k' N'.1))
  · simp +decide (maxSteps := 4000000) (disch := omega) only [k193_0, k193_r, k193_s, F_al0, T_getR, F_is1i, F_is1r, F_is1m, F_il1, T_ret, c25, c90, FX F, ↓s25 OT, kd_44, ↓reduceIte, TK, lt_run hn, le43, Int.le_refl, Int.lt_irrefl, Option.some.injEq, exists_eq_left', true_and, and_true, if_true, if_false, decide_eq_false_iff_not, decide_eq_true_eq, Nat.reduceAdd, Nat.reduceLeDiff, Nat.reduceLT, Int.reduceAdd, Int.reduceSub, Int.reduceMul, Int.reduceNeg, not_true_eq_false, not_false_eq_true]
    refine ⟨_, rfl, ?_⟩
    obtain ⟨y1, y2, y3⟩ := mr (e44 e4)
    refine w315 F hn TT.1 TT.2.1 y1 y2 hm y3 (fun h6 e' he' g1 => absurd N.2.1 (by rw [he, ← he']; exact g1 k N.1)) (fun h6 k' e' he' N' nf' c6 e6 => ?_) (fun h6 k' e' he' N' nf' => ?_) (fun h6 k' e' he' N' nf' => ?_)
    all_goals
      rw [← he] at he'
      subst he'
      have ek := Nk_u N N'
      subst ek
    · exact ⟨rfl, keep h4 h6 e4 e6 c6⟩
    · exact absurd nf' nf
    · exact absurd nf' nf
  · simp +decide (maxSteps := 4000000) (disch := omega) only [k193_0, k193_r, k193_s, F_al0, T_getR, F_is1i, F_is1r, F_is1m, F_il1, T_ret, c25, c90, FX F, ↓s25 OT, kd_44, ↓reduceIte, TK, lt_run hn, le43, Int.le_refl, Int.lt_irrefl, Option.some.injEq, exists_eq_left', true_and, and_true, if_true, if_false, decide_eq_false_iff_not, decide_eq_true_eq, Nat.reduceAdd, Nat.reduceLeDiff, Nat.reduceLT, Int.reduceAdd, Int.reduceSub, Int.reduceMul, Int.reduceNeg, not_true_eq_false, not_false_eq_true]
    refine ⟨_, rfl, ?_⟩
    obtain ⟨y1, y2, y3⟩ := mr (e44 e4)
    refine w315 F hn TT.1 TT.2.1 y1 y2 hm y3 (fun h6 e' he' g1 => absurd N.2.1 (by rw [he, ← he']; exact g1 k N.1)) (fun h6 k' e' he' N' nf' => ?_) (fun h6 k' e' he' N' nf' _ c6 e6 => ⟨rfl, keep h4 h6 e4 e6 c6⟩) (fun h6 k' e' he' N' nf' mm => by omega)
    rw [← he] at he'
    subst he'
    have ek := Nk_u N N'
    subst ek
    exact absurd nf nf'
  · have F' : FH (hR hr 114 m.toNat (some (4 + k))) := F.set rfl
    have OT' := Ob_tape (E := E) F' hn
    simp +decide (maxSteps := 4000000) (disch := omega) only [k193_0, k193_r, k193_s, F_al0, T_getR, F_is1i, F_is1r, F_is1m, F_il1, T_ret, c25, c90, FX F', ↓s25 OT', kd_44, ↓reduceIte, TK, lt_run hn, le43, Int.le_refl, Int.lt_irrefl, Option.some.injEq, exists_eq_left', true_and, and_true, if_true, if_false, decide_eq_false_iff_not, decide_eq_true_eq, Nat.reduceAdd, Nat.reduceLeDiff, Nat.reduceLT, Int.reduceAdd, Int.reduceSub, Int.reduceMul, Int.reduceNeg, not_true_eq_false, not_false_eq_true]
    refine ⟨_, rfl, ?_⟩
    have e5 : Ef (fun x q => (x = 44 ∧ q = 1) ∨ Snk m x q ∨ (x = 113 ∧ q = 2)) h (hI h4 44 1 (J 0)) := Ef.hI (e4.mono fun a q z => Or.inr z) (Or.inl ⟨rfl, rfl⟩)
    obtain ⟨y1, y2, y3⟩ := mr (e5.mono fun a q z => by unfold Snk at z; omega)
    refine w315 F' hn TT.1 TT.2.1 y1 y2 hm y3 (fun h6 e' he' g1 => absurd N.2.1 (by rw [he, ← he']; exact g1 k N.1)) (fun h6 k' e' he' N' nf' => ?_) (fun h6 k' e' he' N' nf' mm => by omega) (fun h6 k' e' he' N' nf' mm c6 e6 d6 d7 r6 => ?_)
    all_goals
      rw [← he] at he'
      subst he'
      have ek := Nk_u N N'
      subst ek
    · exact absurd nf nf'
    have kb := N.1
    have nr1 : (nR b t m k e').1 = -1 := by
      by_cases z : (nR b t m k e').1 = -1
      · exact z
      · unfold nF at nf
        rw [if_neg z] at nf
        exact nf
    have na : NA (k : Int) m (nR b t m k e').2.2 := NA_of kb (ars_ok TT.2.1 (sgK k) 0 0 e' (fun _ => 0) er.1 nr1).1
    have nt := nar_t k kb
    have l5 := sg_5 k kb
    dsimp only
    refine ⟨rfl, ⟨⟨⟨m + 1, fun i => if i = m then (k : Int) else K i, fun i => if i = m then (nR b t m k e').2.2 else T i, by omega, fun i => ?_, fun i i0 i1 => ?_, ⟨?_, d6⟩, fun i i1 => ?_, fun i i0 i1 => ?_⟩, CpT_0 ?_ c6⟩, ?_⟩, ⟨F', fun a q z => by rw [hR_o z]⟩, rfl⟩
    · dsimp only
      split
      · omega
      · exact hK i
    · dsimp only
      by_cases z : i = m
      · rw [if_pos z, if_pos z, z]
        exact na
      · rw [if_neg z, if_neg z]
        exact hN i i0 (by omega)
    · rw [e6 113 2 (fun z => by unfold Sne at z; omega), hI_o (by decide)]
      exact d4
    · by_cases z : i = m.toNat
      · exact ⟨k, kb, by rw [z, hR_s]⟩
      · rw [hR_k z]
        exact hq i i1
    · dsimp only
      by_cases z : i = m
      · subst z
        rw [if_pos rfl, if_pos rfl, nt, show (k : Int).toNat = k by omega]
        refine ⟨hR_s, d7, fun q q0 q1 => ⟨?_, r6 q q0 q1⟩⟩
        rw [e6.g (fun z => by unfold Sne at z; omega), gA_o (by omega)]
        exact r4 q q0 q1
      · rw [if_neg z, if_neg z]
        obtain ⟨a1, a2, a3⟩ := hi i i0 (by omega)
        have nb : nar (K i) ≤ 5 := by
          unfold nar
          repeat' split
          all_goals omega
        have e7 : Ef (fun x q => ((x = 44 ∧ q = 1) ∨ Snk m x q ∨ (x = 113 ∧ q = 2)) ∨ Sne x q ∨ (x = 704 ∧ q = 82) ∨ (x = 764 ∧ q = m.toNat) ∨ (x = 765 ∧ 6 * m.toNat ≤ q ∧ q < 6 * m.toNat + 6)) h h6 := Ef.trans (e5.mono fun a q z => Or.inl z) (e6.mono fun a q z => Or.inr z)
        refine ⟨by rw [hR_k (by omega)]; exact a1, ?_, fun q q0 q1 => ?_⟩
        · rw [e7.g (fun z => by unfold Snk Sne at z; omega)]
          exact a2
        · rw [e7.g (fun z => by unfold Snk Sne at z; omega), e7.g (fun z => by unfold Snk Sne at z; omega)]
          exact a3 q q0 q1
    · rw [e6 44 1 (fun z => by unfold Sne at z; omega)]
      exact hI_s
    · refine Ef.trans (e5.mono fun a q z => ?_) (e6.mono fun a q z => ?_)
      · rcases z with ⟨rfl, rfl⟩ | (⟨rfl, rfl | rfl⟩ | z) | ⟨rfl, rfl⟩
        · exact Or.inr (Or.inl rfl)
        · exact Or.inl rfl
        · exact Or.inl rfl
        · exact sy (Or.inl z)
        · exact Or.inr (Or.inr rfl)
      · rcases z with z | ⟨rfl, rfl⟩ | ⟨rfl, _⟩ | ⟨rfl, _⟩
        · have := sys_ne z
          omega
        · exact Or.inr (Or.inr rfl)
        · exact Or.inr (Or.inr rfl)
        · exact Or.inr (Or.inr rfl)
end NP
