/-! node: the kinds -/
def nmK (k : Nat) : List Int := ([[112, 97, 112, 101, 114], [108, 97, 121, 101, 114], [111, 118, 101, 114], [115, 104, 105, 102, 116], [109, 97, 116, 116, 101], [102, 97, 100, 101], [98, 108, 117, 114], [115, 112, 97, 114, 107, 115]] : List (List Int)).getD k []
def sgK (k : Nat) : List Int := ([[99], [108, 108], [110, 110], [110, 115, 115], [110, 110], [110, 110, 102, 103], [110], [104, 120, 121, 107, 99]] : List (List Int)).getD k []
def sgI (k : Nat) : Nat := ([20, 21, 22, 23, 22, 24, 25, 26] : List Nat).getD k 0
theorem nm_t : ∀ k : Nat, k < 8 → (a_kd (4 + k) = 12 ∧ a_cR (4 + k) 0 = some (12 + k) ∧ a_cR (4 + k) 1 = some (sgI k) ∧ a_cR 3 k = some (4 + k)) ∧ (a_kd (12 + k) = 13 ∧ a_kd (28 + k) = 21 ∧ a_lnS (28 + k) = (nmK k).length ∧ (nmK k).length ≤ 6 ∧ a_cR (12 + k) 0 = some (28 + k) ∧ a_cI (12 + k) 1 = J 0) ∧ (20 ≤ sgI k ∧ sgI k ≤ 26) ∧ (a_kd (sgI k) = 13 ∧ a_kd (sgI k + 16) = 21 ∧ a_lnS (sgI k + 16) = (sgK k).length ∧ (sgK k).length ≤ 6 ∧ a_cR (sgI k) 0 = some (sgI k + 16) ∧ a_cI (sgI k) 1 = J 0) := by decide +kernel
theorem nm_b : ∀ k : Nat, k < 8 → ∀ q : Nat, q < (nmK k).length → a_cI (28 + k) q = J ((nmK k).getD q 0) ∧ 97 ≤ (nmK k).getD q 0 ∧ (nmK k).getD q 0 ≤ 122 := by decide +kernel
theorem sg_b : ∀ k : Nat, k < 8 → ∀ q : Nat, q < (sgK k).length → a_cI (sgI k + 16) q = J ((sgK k).getD q 0) ∧ 97 ≤ (sgK k).getD q 0 ∧ (sgK k).getD q 0 ≤ 122 := by decide +kernel
section KD
variable {E : AEn} {h h' : AHi} {hr : AHr} {n : Nat} {Q : ARs → Prop} {t p f m w e : Int} {b V : Int → Int} {k : Nat}
theorem rI_c {a q : Nat} (h1 : a < 43) (h2 : a ≠ 0) : rI E h a q = a_cI a q := by
  unfold rI
  rw [show Nat.blt a 43 = true from Nat.ble_eq.mpr h1, show Nat.beq a 0 = false from (by
    cases a with
    | zero => exact absurd rfl h2
    | succ a => rfl)]
  rfl
theorem rR_c {a q : Nat} (h1 : a < 43) : rR hr a q = a_cR a q := by
  unfold rR
  rw [show Nat.blt a 43 = true from Nat.ble_eq.mpr h1]
  rfl
theorem St_of {a c : Nat} {L : List Int} (ha : 1 ≤ a ∧ a < 43) (hc : 1 ≤ c ∧ c < 43) (u : a_kd a = 13 ∧ a_kd c = 21 ∧ a_lnS c = L.length ∧ L.length ≤ 6 ∧ a_cR a 0 = some c ∧ a_cI a 1 = J 0) (v : ∀ q : Nat, q < L.length → a_cI c q = J (L.getD q 0) ∧ 97 ≤ L.getD q 0 ∧ L.getD q 0 ≤ 122) : StrC E a c L := by
  obtain ⟨u1, u2, u3, u4, u5, u6⟩ := u
  refine ⟨⟨ha.2, hc.2⟩, u1, u2, (ln_S (by omega)).trans u3, by omega, fun hr => (rR_c ha.2).trans u5, fun h => (rI_c ha.2 (by omega)).trans u6, fun h i i0 i1 => ?_⟩
  unfold rX
  rw [J_clamp (by omega) (by omega), rI_c hc.2 (by omega)]
  exact v i.toNat (by omega)
theorem St_n (hk : k < 8) : StrC E (12 + k) (28 + k) (nmK k) := St_of (by omega) (by omega) (nm_t k hk).2.1 (nm_b k hk)
theorem St_s (hk : k < 8) : StrC E (sgI k) (sgI k + 16) (sgK k) := by
  have u := nm_t k hk
  exact St_of (by omega) (by omega) u.2.2.2 (sg_b k hk)
/-- the bytes from p to e are the name of the kind k -/
def isNm (b : Int → Int) (t : Int) (k : Nat) (p e : Int) : Prop := e - p = (nmK k).length ∧ ∀ i : Int, 0 ≤ i → i < (nmK k).length → bt b t (p + i) = (nmK k).getD i.toNat 0
theorem w338 (F : FH hr) (hn : 775 ≤ n) (hk : k < 8) (T : TpC h t b) (hp : 0 ≤ p ∧ p ≤ 1700) (he : 0 ≤ e ∧ e ≤ 1700) (k1 : isNm b t k p e → Q (some (.int (J 1)), RS h w f, hr, n)) (k2 : ¬ isNm b t k p e → Q (some (.int (J 0)), RS h w f, hr, n)) : Sp E 338 [.ref (4 + k), .ref 44, .int (J p), .int (J e)] (RS h w f) hr n Q := by
  obtain ⟨⟨u1, u2, _, _⟩, ⟨u4, _⟩, _⟩ := nm_t k hk
  have S := St_n (E := E) hk
  have l6 := S.2.2.2.2.1
  have u3 : rR hr (4 + k) 0 = some (12 + k) := (rR_c (by omega)).trans u2
  have y1 : 4 + k < n := by omega
  have ln : ∀ {Q : ARs → Prop}, Sp E 339 [.ref (12 + k)] (RS h w f) hr n Q ↔ Q (some (.int (J (nmK k).length)), RS h w f, hr, n) := fun {Q} => w339 hn S
  simp +decide (maxSteps := 4000000) (disch := omega) only [k338_0, k338_1, k338_3, k338_4, k338_r, k338_s, F_il3, F_il2, T_sub, F_al0, T_getR, T_iceq, T_I, T_ret, F_is4i, F_is4r, F_is4m, T_ft, F_il4, T_icge, F_al1, T_add, F_inc4i, F_inc4r, F_inc4m, T_goto, c12, c339, c341, ↓s12, u1, u3, u4, y1, ln, ↓reduceIte, TK, lt_run hn, le43, Int.le_refl, Int.lt_irrefl, Option.some.injEq, exists_eq_left', true_and, and_true, if_true, if_false, decide_eq_false_iff_not, decide_eq_true_eq, Nat.reduceAdd, Nat.reduceLeDiff, Nat.reduceLT, Int.reduceAdd, Int.reduceSub, Int.reduceMul, Int.reduceNeg, not_true_eq_false, not_false_eq_true]
  by_cases g : e - p = (nmK k).length
  case neg =>
    try simp +decide (maxSteps := 4000000) (disch := omega) only [k338_0, k338_1, k338_3, k338_4, k338_r, k338_s, F_il3, F_il2, T_sub, F_al0, T_getR, T_iceq, T_I, T_ret, F_is4i, F_is4r, F_is4m, T_ft, F_il4, T_icge, F_al1, T_add, F_inc4i, F_inc4r, F_inc4m, T_goto, c12, c339, c341, ↓s12, g, u4, ↓reduceIte, TK, lt_run hn, le43, Int.le_refl, Int.lt_irrefl, Option.some.injEq, exists_eq_left', true_and, and_true, if_true, if_false, decide_eq_false_iff_not, decide_eq_true_eq, Nat.reduceAdd, Nat.reduceLeDiff, Nat.reduceLT, Int.reduceAdd, Int.reduceSub, Int.reduceMul, Int.reduceNeg, not_true_eq_false, not_false_eq_true]
    exact k2 (fun z => g z.1)
  try simp +decide (maxSteps := 4000000) (disch := omega) only [k338_0, k338_1, k338_3, k338_4, k338_r, k338_s, F_il3, F_il2, T_sub, F_al0, T_getR, T_iceq, T_I, T_ret, F_is4i, F_is4r, F_is4m, T_ft, F_il4, T_icge, F_al1, T_add, F_inc4i, F_inc4r, F_inc4m, T_goto, c12, c339, c341, ↓s12, g, u4, ↓reduceIte, TK, lt_run hn, le43, Int.le_refl, Int.lt_irrefl, Option.some.injEq, exists_eq_left', true_and, and_true, if_true, if_false, decide_eq_false_iff_not, decide_eq_true_eq, Nat.reduceAdd, Nat.reduceLeDiff, Nat.reduceLT, Int.reduceAdd, Int.reduceSub, Int.reduceMul, Int.reduceNeg, not_true_eq_false, not_false_eq_true]
  refine T_for (σ := Unit) (fun i _ => [.ref (4 + k), .ref 44, .int (J p), .int (J e), .int (J i)]) (fun i _ h' => h' = RS h w f ∧ ∀ j, 0 ≤ j → j < i → bt b t (p + j) = (nmK k).getD j.toNat 0) 0 (nmK k).length ?_ ?_ 0 () _ (by omega) (by omega) ⟨rfl, fun j _ _ => by omega⟩
  · rintro i _ _ i0 i1 ⟨rfl, a1⟩ ih
    have bb := bt_r (t := t) T.2.1 (p + i)
    have nb := (S.2.2.2.2.2.2.2 h i i0 i1).2
    have ch : ∀ {Q : ARs → Prop}, Sp E 341 [.ref (12 + k), .int (J i)] (RS h w f) hr n Q ↔ Q (some (.int (J ((nmK k).getD i.toNat 0))), RS h w f, hr, n) := fun {Q} => w341 hn S i0 i1
    by_cases g2 : bt b t (p + i) = (nmK k).getD i.toNat 0
    · have fin := ih () _ ⟨rfl, fun j j0 j1 => by
        rcases (show j < i ∨ j = i by omega) with z | z
        · exact a1 j j0 z
        · rw [z]
          exact g2⟩
      rw [k338_2]
      simp +decide (maxSteps := 4000000) (disch := omega) only [k338_0, k338_1, k338_3, k338_4, k338_r, k338_s, F_il3, F_il2, T_sub, F_al0, T_getR, T_iceq, T_I, T_ret, F_is4i, F_is4r, F_is4m, T_ft, F_il4, T_icge, F_al1, T_add, F_inc4i, F_inc4r, F_inc4m, T_goto, c12, c339, c341, u1, u3, u4, y1, ln, ch, c12t F hn T, g2, kd_44, show ¬ ((nmK k).length : Int) ≤ i by omega, ↓reduceIte, TK, lt_run hn, le43, Int.le_refl, Int.lt_irrefl, Option.some.injEq, exists_eq_left', true_and, and_true, if_true, if_false, decide_eq_false_iff_not, decide_eq_true_eq, Nat.reduceAdd, Nat.reduceLeDiff, Nat.reduceLT, Int.reduceAdd, Int.reduceSub, Int.reduceMul, Int.reduceNeg, not_true_eq_false, not_false_eq_true]
      exact fin
    · have fin := k2 (fun z => g2 (z.2 i i0 i1))
      rw [k338_2]
      simp +decide (maxSteps := 4000000) (disch := omega) only [k338_0, k338_1, k338_3, k338_4, k338_r, k338_s, F_il3, F_il2, T_sub, F_al0, T_getR, T_iceq, T_I, T_ret, F_is4i, F_is4r, F_is4m, T_ft, F_il4, T_icge, F_al1, T_add, F_inc4i, F_inc4r, F_inc4m, T_goto, c12, c339, c341, u1, u3, u4, y1, ln, ch, c12t F hn T, g2, kd_44, show ¬ ((nmK k).length : Int) ≤ i by omega, ↓reduceIte, TK, lt_run hn, le43, Int.le_refl, Int.lt_irrefl, Option.some.injEq, exists_eq_left', true_and, and_true, if_true, if_false, decide_eq_false_iff_not, decide_eq_true_eq, Nat.reduceAdd, Nat.reduceLeDiff, Nat.reduceLT, Int.reduceAdd, Int.reduceSub, Int.reduceMul, Int.reduceNeg, not_true_eq_false, not_false_eq_true]
      exact fin
  · rintro _ _ ⟨rfl, a1⟩
    rw [k338_2]
    simp +decide (maxSteps := 4000000) (disch := omega) only [k338_0, k338_1, k338_3, k338_4, k338_r, k338_s, F_il3, F_il2, T_sub, F_al0, T_getR, T_iceq, T_I, T_ret, F_is4i, F_is4r, F_is4m, T_ft, F_il4, T_icge, F_al1, T_add, F_inc4i, F_inc4r, F_inc4m, T_goto, c12, c339, c341, ↓s12, u1, u3, u4, y1, ln, ↓reduceIte, TK, lt_run hn, le43, Int.le_refl, Int.lt_irrefl, Option.some.injEq, exists_eq_left', true_and, and_true, if_true, if_false, decide_eq_false_iff_not, decide_eq_true_eq, Nat.reduceAdd, Nat.reduceLeDiff, Nat.reduceLT, Int.reduceAdd, Int.reduceSub, Int.reduceMul, Int.reduceNeg, not_true_eq_false, not_false_eq_true]
    exact k1 ⟨g, a1⟩
end KD
