/-! speech: both sides -/
section SS
variable {E : AEn} {h h' : AHi} {hr : AHr} {n : Nat} {Q : ARs → Prop} {t : Int} {b : Int → Int}
theorem sys_vq {a k : Nat} (q : Svq a k) : sys a k = 0 ∨ sys a k = 1 := by
  rcases q with ⟨rfl, rfl | rfl | rfl | rfl⟩ | rfl | rfl | rfl
  · exact Or.inr rfl
  all_goals exact Or.inl rfl
theorem sys_pc {a k : Nat} (q : Spc a k) : sys a k = 0 ∨ sys a k = 1 := by
  rcases q with ⟨rfl, rfl | rfl⟩ | rfl | rfl
  all_goals exact Or.inl rfl
theorem sys_vs {a k : Nat} (q : Svs a k) : sys a k = 14 := by
  rcases q with ⟨rfl, rfl⟩ | rfl | rfl
  all_goals rfl
theorem sys_sd {a k : Nat} (q : Ssd a k) : sys a k = 14 := by
  rcases q with rfl | rfl | ⟨rfl, rfl⟩
  all_goals rfl
theorem Cp14_of {L : Spl} {s : Int} (G : Lg L s) (C : CS h L) (c2 : h 704 65 = J L.length) (P : LPq h 752 753 L) : Cp14 h := by
  have lg := Lg_len G
  refine ⟨L.length, fun i => ((L[i.toNat]?).getD (0, 1)).1, fun i => ((L[i.toNat]?).getD (0, 1)).2, by omega, fun i => ?_, fun i => ?_, ⟨C.1, c2⟩, fun i i0 i1 => ?_⟩
  · dsimp only
    by_cases z : i.toNat < L.length
    · rw [List.getElem?_eq_getElem z]
      exact (Lg_e G (List.getElem_mem z)).1
    · rw [List.getElem?_eq_none (by omega)]
      exact ⟨by decide, by decide⟩
  · dsimp only
    by_cases z : i.toNat < L.length
    · rw [List.getElem?_eq_getElem z]
      have := (Lg_e G (List.getElem_mem z)).2
      show 0 ≤ (L[i.toNat]).2 ∧ (L[i.toNat]).2 ≤ 120
      omega
    · rw [List.getElem?_eq_none (by omega)]
      exact ⟨by decide, by decide⟩
  · obtain ⟨x, hx, _⟩ := el L i0 i1
    dsimp only
    rw [hx]
    exact ⟨LPq_i C.2 i0 hx, LPq_i P i0 hx⟩
theorem Pspeech (F : FH hr) (hn : 775 ≤ n) (C13 : Cp13 h) (C : Cp14 h) (CT : CpT h) : Pr2 E 182 302 [] h hr n (Po (fun h' => Cp14 h' ∧ CpT h') 1 14 h hr n) := by
  obtain ⟨V, hV, R⟩ := C13
  obtain ⟨t, b, T, m1, m2⟩ := CT
  have OT := Ob_tape (E := E) F hn
  have mr : ∀ {h' : AHi}, Ef (fun x k => x < 700) h h' → h' 704 2 = J t ∧ (∀ i, 0 ≤ i → i < t → gA h' 705 i = J (b i)) ∧ Rk h' 750 26 V := fun e => by
    refine ⟨?_, fun i i0 i1 => ?_, fun j j0 j1 => ?_⟩
    · rw [e 704 2 (by omega)]
      exact m1
    · rw [e.g (by omega)]
      exact m2 i i0 i1
    · rw [e.g (by omega)]
      exact (R j j0 j1).2
  unfold Pr2
  simp +decide (maxSteps := 4000000) (disch := omega) only [k182_0, k182_r, k182_s, F_al0, T_getR, F_is1i, F_is1r, F_is1m, F_il1, T_ret, c25, c71, ↓s25, FX F, kd_44, kd_105, ↓reduceIte, TK, lt_run hn, le43, Int.le_refl, Int.lt_irrefl, Option.some.injEq, exists_eq_left', true_and, and_true, if_true, if_false, decide_eq_false_iff_not, decide_eq_true_eq, Nat.reduceAdd, Nat.reduceLeDiff, Nat.reduceLT, Int.reduceAdd, Int.reduceSub, Int.reduceMul, Int.reduceNeg, not_true_eq_false, not_false_eq_true]
  refine w71 F hn hV T (fun j j0 j1 => (R j j0 j1).1) (fun h4 e4 q => ?_) (fun h4 s e4 q G4 C4 => ?_)
  · simp +decide (maxSteps := 4000000) (disch := omega) only [k182_0, k182_r, k182_s, F_al0, T_getR, F_is1i, F_is1r, F_is1m, F_il1, T_ret, c25, c71, FX F, ↓s25 OT, kd_44, ↓reduceIte, TK, lt_run hn, le43, Int.le_refl, Int.lt_irrefl, Option.some.injEq, exists_eq_left', true_and, and_true, if_true, if_false, decide_eq_false_iff_not, decide_eq_true_eq, Nat.reduceAdd, Nat.reduceLeDiff, Nat.reduceLT, Int.reduceAdd, Int.reduceSub, Int.reduceMul, Int.reduceNeg, not_true_eq_false, not_false_eq_true]
    refine ⟨_, rfl, ?_⟩
    have e5 : Ef (fun x k => (x = 44 ∧ k = 1) ∨ Spc x k) h (hI h4 44 1 (J 0)) := (e4.mono fun x k q => Or.inr q).hI (Or.inl ⟨rfl, rfl⟩)
    obtain ⟨y1, y2, y3⟩ := mr (e5.mono fun x k q => by unfold Spc at q; omega)
    refine w302 F hn hV T.1 T.2.1 y1 y2 y3 (fun h6 c6 e6 _ => ?_) (fun h6 c6 e6 q' => absurd q' q)
    have e7 : Ef (fun a k => sys a k = 0 ∨ sys a k = 1) h h6 := Ef.trans (e5.mono fun x k q => by
      rcases q with ⟨rfl, rfl⟩ | q
      · exact Or.inr rfl
      · exact sys_pc q) (e6.mono fun x k q => sys_vq q)
    dsimp only
    refine ⟨rfl, ⟨⟨C.sm (fun x k q => e7 x k (by omega)), CpT_0 ?_ c6⟩, e7.mono fun x k q => by omega⟩, rfl, rfl⟩
    rw [e6 _ _ (fun q => by unfold Svq at q; omega)]
    exact hI_s
  · simp +decide (maxSteps := 4000000) (disch := omega) only [k182_0, k182_r, k182_s, F_al0, T_getR, F_is1i, F_is1r, F_is1m, F_il1, T_ret, c25, c71, FX F, ↓s25 OT, kd_44, ↓reduceIte, TK, lt_run hn, le43, Int.le_refl, Int.lt_irrefl, Option.some.injEq, exists_eq_left', true_and, and_true, if_true, if_false, decide_eq_false_iff_not, decide_eq_true_eq, Nat.reduceAdd, Nat.reduceLeDiff, Nat.reduceLT, Int.reduceAdd, Int.reduceSub, Int.reduceMul, Int.reduceNeg, not_true_eq_false, not_false_eq_true]
    refine ⟨_, rfl, ?_⟩
    have e5 : Ef (fun x k => (x = 44 ∧ k = 1) ∨ Spc x k ∨ Ssd x k) h (hI h4 44 1 (J 0)) := (e4.mono fun x k q => Or.inr q).hI (Or.inl ⟨rfl, rfl⟩)
    obtain ⟨y1, y2, y3⟩ := mr (e5.mono fun x k q => by unfold Spc Ssd at q; omega)
    refine w302 F hn hV T.1 T.2.1 y1 y2 y3 (fun h6 c6 e6 q' => absurd q q') (fun h6 c6 e6 _ d6 P6 => ?_)
    have e7 : Kp 1 14 h h6 := Ef.trans (e5.mono fun x k q => by
      rcases q with ⟨rfl, rfl⟩ | q | q
      · exact Or.inr (Or.inl rfl)
      · have := sys_pc q
        omega
      · exact Or.inr (Or.inr (sys_sd q))) (e6.mono fun x k q => by
      rcases q with q | q
      · have := sys_vq q
        omega
      · exact Or.inr (Or.inr (sys_vs q)))
    dsimp only
    have e8 : Ef (fun x k => (x = 44 ∧ k = 1) ∨ x ≥ 700) h4 h6 := Ef.trans (Ef.refl.hI (Or.inl ⟨rfl, rfl⟩)) (e6.mono fun x k q => by unfold Svq Svs at q; omega)
    refine ⟨rfl, ⟨⟨Cp14_of G4 ⟨?_, C4.2.ef e8 (fun k q => by omega) (fun k q => by omega)⟩ d6 P6, CpT_0 ?_ c6⟩, e7⟩, rfl, rfl⟩
    · rw [e8 _ _ (by omega)]
      exact C4.1
    · rw [e6 _ _ (fun q => by unfold Svq Svs at q; omega)]
      exact hI_s
end SS
