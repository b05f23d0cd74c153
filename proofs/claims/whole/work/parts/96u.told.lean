/-! pictures: which pictures a node tells; what is needed -/
/-- how many nodes a kind tells -/
def nnd (k : Int) : Int := if k = 2 ∨ k = 4 ∨ k = 5 then 2 else if k = 3 ∨ k = 6 then 1 else 0
def swk (k : Int) : Int := if k = 0 then 1 else if k = 1 then 0 else k
theorem kn_t : ∀ k : Nat, k < 8 → (a_kd (4 + k) = 12 ∧ a_cI (4 + k) 2 = J (nnd k) ∧ a_cI (4 + k) 3 = J k) ∧ a_cI 2 k = J (swk k) := by decide +kernel
section TO
variable {E : AEn} {h h' : AHi} {hr : AHr} {n : Nat} {Q : ARs → Prop} {e : PEn} {f i k : Int}
theorem kn_i (hk : 0 ≤ k ∧ k ≤ 7) : (a_kd (4 + k.toNat) = 12 ∧ rI E h (4 + k.toNat) 2 = J (nnd k) ∧ rI E h (4 + k.toNat) 3 = J k) ∧ rX E h 2 (J k) = J (swk k) := by
  have t := kn_t k.toNat (by omega)
  rw [Int.toNat_of_nonneg hk.1] at t
  refine ⟨⟨t.1.1, (rI_c (by omega) (by omega)).trans t.1.2.1, (rI_c (by omega) (by omega)).trans t.1.2.2⟩, ?_⟩
  unfold rX
  rw [J_clamp (by omega) (by omega), rI_c (by decide) (by decide)]
  exact t.2
theorem nnd_r (k : Int) : 0 ≤ nnd k ∧ nnd k ≤ 2 := by
  unfold nnd
  repeat' split
  all_goals omega
theorem nnd_nar (k : Int) : nnd k ≤ nar k := by
  unfold nnd nar
  repeat' split
  all_goals omega
/-- the nodes that a node tells come ahead of it -/
theorem NA_n {T : Int → Int} (A : NA k i T) {q : Int} (q0 : 0 ≤ q) (q1 : q < nnd k) : 0 ≤ T q ∧ T q < i := by
  obtain ⟨_, _, a24, a3, a5, a6, _⟩ := A
  unfold nnd at q1
  by_cases g2 : k = 2 ∨ k = 4 ∨ k = 5
  · rw [if_pos g2] at q1
    rcases (show q = 0 ∨ q = 1 by omega) with rfl | rfl
    · rcases g2 with g | g | g
      · exact (a24 (Or.inl g)).1
      · exact (a24 (Or.inr g)).1
      · exact (a5 g).1
    · rcases g2 with g | g | g
      · exact (a24 (Or.inl g)).2
      · exact (a24 (Or.inr g)).2
      · exact (a5 g).2.1
  · rw [if_neg g2] at q1
    by_cases g3 : k = 3 ∨ k = 6
    · rw [if_pos g3] at q1
      rw [show q = 0 by omega]
      rcases g3 with g | g
      · exact (a3 g).1
      · exact a6 g
    · rw [if_neg g3] at q1
      omega
theorem s96 (F : FH hr) (hn : 775 ≤ n) (W : PW h hr e) (hi : 0 ≤ i ∧ i < e.m) {q : Int} (hq : q = 0 ∨ q = 1) : Sp E 96 [.ref 113, .int (J i), .int (J q)] h hr n Q ↔ Q (some (.ref (128 + (if q < nnd (e.K i) then e.T i q else i).toNat)), h, hr, n) := by
  obtain ⟨_, _, _, _, _, _, _, n1, n2, n3, n4, n5, n6⟩ := id W
  have im : i < 10 := by omega
  have x2 := X115 E F hi.1 (show i < 11 by omega)
  obtain ⟨k1, _, t1⟩ := n6 i hi.1 hi.2
  obtain ⟨⟨v1, v2, v3⟩, _⟩ := kn_i (E := E) (h := h) (n2 i)
  have y1 : 4 + (e.K i).toNat < n := by have := n2 i; omega
  have nr := nnd_r (e.K i)
  by_cases g : q < nnd (e.K i)
  · have t2 := (t1 q (by omega) (by have := nnd_nar (e.K i); omega)).1
    have t3 := NA_n (n3 i hi.1 hi.2) (q := q) (by omega) g
    have x3 := X127 E F t3.1 (show e.T i q < 10 by omega)
    rw [if_pos g]
    simp +decide (maxSteps := 4000000) (disch := omega) only [k96_0, k96_1, k96_2, k96_r, k96_s, F_al0, T_getR, F_il2, F_il1, X_aald, T_getI, T_icge, X_iald, T_goto, T_ft, T_ret, FX F, k1, v1, v2, y1, x2, x3, t2, g, kd_114, ln_114, kd_115, ln_115, kd_127, ln_127, show ¬ nnd (e.K i) ≤ q by omega, ↓reduceIte, TK, lt_run hn, le43, Int.le_refl, Int.lt_irrefl, Option.some.injEq, exists_eq_left', true_and, and_true, if_true, if_false, decide_eq_false_iff_not, decide_eq_true_eq, Nat.reduceAdd, Nat.reduceLeDiff, Nat.reduceLT, Int.reduceAdd, Int.reduceSub, Int.reduceMul, Int.reduceNeg, not_true_eq_false, not_false_eq_true]
  · have x3 := X127 E F hi.1 im
    rw [if_neg g]
    simp +decide (maxSteps := 4000000) (disch := omega) only [k96_0, k96_1, k96_2, k96_r, k96_s, F_al0, T_getR, F_il2, F_il1, X_aald, T_getI, T_icge, X_iald, T_goto, T_ft, T_ret, FX F, k1, v1, v2, y1, x3, g, kd_114, ln_114, kd_127, ln_127, show nnd (e.K i) ≤ q by omega, ↓reduceIte, TK, lt_run hn, le43, Int.le_refl, Int.lt_irrefl, Option.some.injEq, exists_eq_left', true_and, and_true, if_true, if_false, decide_eq_false_iff_not, decide_eq_true_eq, Nat.reduceAdd, Nat.reduceLeDiff, Nat.reduceLT, Int.reduceAdd, Int.reduceSub, Int.reduceMul, Int.reduceNeg, not_true_eq_false, not_false_eq_true]
end TO
