/-! THE CAMERA: seen, cutOff -/
def Cm (m : Int) (F X Y Z F' X' Y' Z' : Int → Int) (h : AHi) : Prop := (KR 8 (-400) 400 (m, F, X) ∧ KR 8 (-400) 400 (m, F, Y) ∧ KR 8 16 256 (m, F, Z)) ∧ (KE (m, F, X) (m, F', X') ∧ KE (m, F, Y) (m, F', Y') ∧ KE (m, F, Z) (m, F', Z')) ∧ (KC h 695 (m, F, X) ∧ KC h 698 (m, F, Y) ∧ KC h 701 (m, F, Z)) ∧ h 704 70 = J m ∧ ∀ j, 0 ≤ j → j < m → (gA h 756 j = J (F' j) ∧ gA h 757 j = J (X' j)) ∧ gA h 758 j = J (Y' j) ∧ gA h 759 j = J (Z' j)
def Cp15 (h : AHi) : Prop := ∃ m F X Y Z F' X' Y' Z', Cm m F X Y Z F' X' Y' Z' h
/-- where the camera is, its zoom -/
def cmv (m : Int) (F V : Int → Int) (f o : Int) : Int := kval (m, F, V) f o
/-- what place of the paper lies at a place of the screen -/
def plc (mid D c z x : Int) : Int := mid + rd ((x - mid) * 64 * D + 64 * c * z) (z * D)
theorem rd_b {a b A : Int} (h : -A ≤ a ∧ a ≤ A) (hb : 0 < b) : -A - 1 ≤ rd a b ∧ rd a b ≤ A + 1 := by
  unfold rd
  have hA : 0 ≤ A := by omega
  have h2 : (0 : Int) < 2 * b := by omega
  have e1 : A ≤ A * b := by
    have := Int.mul_le_mul_of_nonneg_left (show (1 : Int) ≤ b by omega) hA
    rwa [Int.mul_one] at this
  constructor
  · apply Int.le_ediv_of_mul_le h2
    have : (-A - 1) * (2 * b) = -(2 * (A * b)) - 2 * b := by
      rw [Int.sub_mul, Int.neg_mul, Int.one_mul, Int.mul_left_comm]
    rw [this]
    omega
  · have h3 : 2 * a + b < (A + 2) * (2 * b) := by
      have : (A + 2) * (2 * b) = 2 * (A * b) + 4 * b := by
        rw [Int.add_mul, Int.mul_left_comm]
        omega
      rw [this]
      omega
    have := Int.ediv_lt_of_lt_mul h2 h3
    omega
section CA
variable {E : AEn} {h h' : AHi} {hr : AHr} {n : Nat} {Q : ARs → Prop} {m : Int} {F X Y Z F' X' Y' Z' : Int → Int}
theorem Kb695 (H : FH hr) : Kb E hr 695 8 := ⟨⟨(H 695 0 (by decide +kernel)).trans (by decide +kernel), (H 695 1 (by decide +kernel)).trans (by decide +kernel)⟩, ⟨rfl, rfl, rfl⟩, ⟨rfl, rfl⟩, ⟨by decide, by decide⟩, by decide, by decide⟩
theorem Kb698 (H : FH hr) : Kb E hr 698 8 := ⟨⟨(H 698 0 (by decide +kernel)).trans (by decide +kernel), (H 698 1 (by decide +kernel)).trans (by decide +kernel)⟩, ⟨rfl, rfl, rfl⟩, ⟨rfl, rfl⟩, ⟨by decide, by decide⟩, by decide, by decide⟩
theorem Kb701 (H : FH hr) : Kb E hr 701 8 := ⟨⟨(H 701 0 (by decide +kernel)).trans (by decide +kernel), (H 701 1 (by decide +kernel)).trans (by decide +kernel)⟩, ⟨rfl, rfl, rfl⟩, ⟨rfl, rfl⟩, ⟨by decide, by decide⟩, by decide, by decide⟩
theorem f112 (H : FH hr) : hr 112 (0 : Int).toNat = some 695 ∧ hr 112 (1 : Int).toNat = some 698 ∧ hr 112 (2 : Int).toNat = some 701 := ⟨(H 112 0 (by decide +kernel)).trans (by decide +kernel), (H 112 1 (by decide +kernel)).trans (by decide +kernel), (H 112 2 (by decide +kernel)).trans (by decide +kernel)⟩
theorem Cm.ef {S : Nat → Nat → Prop} (C : Cm m F X Y Z F' X' Y' Z' h) (e : Ef S h h') (hs : ∀ a k, sys a k = 15 → ¬ S a k) : Cm m F X Y Z F' X' Y' Z' h' := by
  obtain ⟨r, k, ⟨c1, c2, c3⟩, c4, c5⟩ := C
  have s1 : ∀ a k, 695 ≤ a → a < 704 → ¬ S a k := fun a k h1 h2 => hs a k (sys_15 h1 h2)
  refine ⟨r, k, ⟨c1.ef e (fun x k h1 h2 => s1 x k (by omega) (by omega)), c2.ef e (fun x k h1 h2 => s1 x k (by omega) (by omega)), c3.ef e (fun x k h1 h2 => s1 x k (by omega) (by omega))⟩, ?_, fun j j0 j1 => ?_⟩
  · rw [e _ _ (hs _ _ rfl)]
    exact c4
  · rw [e.g (hs _ _ rfl), e.g (hs _ _ rfl), e.g (hs _ _ rfl), e.g (hs _ _ rfl)]
    exact c5 j j0 j1
theorem Cp15.sm (C : Cp15 h) (e : Sm 15 h h') : Cp15 h' := by
  obtain ⟨m, F, X, Y, Z, F', X', Y', Z', C⟩ := C
  exact ⟨m, F, X, Y, Z, F', X', Y', Z', C.ef (S := fun a k => sys a k ≠ 15) (fun a k q => e a k (Decidable.not_not.mp q)) (fun a k q q' => q' q)⟩
theorem s188 (H : FH hr) (hn : 775 ≤ n) (C : Cm m F X Y Z F' X' Y' Z' h) {a f : Int} (ha : a = 0 ∨ a = 1) (hf : 0 ≤ f ∧ f ≤ 119) : Sp E 188 [.ref 43, .int (J a), .int (J f)] h hr n Q ↔ Q (some (.long (L (cmv m F (if a = 0 then X else Y) f 0))), h, hr, n) := by
  obtain ⟨⟨r1, r2, r3⟩, k, ⟨c1, c2, c3⟩, c4, c5⟩ := C
  have x := f112 H
  rcases ha with rfl | rfl
  · have S := fun Q => s55 (E := E) (Q := Q) (v := 0) hn (Kb695 H) r1 (by decide) c1 hf
    have rv := kval_r r1 f (o := 0) (by omega)
    rw [if_pos rfl]
    simp +decide (maxSteps := 4000000) (disch := omega) only [k188_0, k188_r, k188_s, F_al0, T_getR, F_il1, X_aald, F_il2, T_I, T_i2l, T_ret, c55, FX H, x, S, kd_112, ln_112, J_l, ↓reduceIte, TK, lt_run hn, le43, Int.le_refl, Int.lt_irrefl, Option.some.injEq, exists_eq_left', true_and, and_true, if_true, if_false, decide_eq_false_iff_not, decide_eq_true_eq, Nat.reduceAdd, Nat.reduceLeDiff, Nat.reduceLT, Int.reduceAdd, Int.reduceSub, Int.reduceMul, Int.reduceNeg, not_true_eq_false, not_false_eq_true]
    exact Iff.rfl
  · have S := fun Q => s55 (E := E) (Q := Q) (v := 0) hn (Kb698 H) r2 (by decide) c2 hf
    have rv := kval_r r2 f (o := 0) (by omega)
    rw [if_neg (by decide)]
    simp +decide (maxSteps := 4000000) (disch := omega) only [k188_0, k188_r, k188_s, F_al0, T_getR, F_il1, X_aald, F_il2, T_I, T_i2l, T_ret, c55, FX H, x, S, kd_112, ln_112, J_l, ↓reduceIte, TK, lt_run hn, le43, Int.le_refl, Int.lt_irrefl, Option.some.injEq, exists_eq_left', true_and, and_true, if_true, if_false, decide_eq_false_iff_not, decide_eq_true_eq, Nat.reduceAdd, Nat.reduceLeDiff, Nat.reduceLT, Int.reduceAdd, Int.reduceSub, Int.reduceMul, Int.reduceNeg, not_true_eq_false, not_false_eq_true]
    exact Iff.rfl
theorem s189 (H : FH hr) (hn : 775 ≤ n) (C : Cm m F X Y Z F' X' Y' Z' h) {f : Int} (hf : 0 ≤ f ∧ f ≤ 119) : Sp E 189 [.ref 43, .int (J f)] h hr n Q ↔ Q (some (.long (L (cmv m F Z f 64))), h, hr, n) := by
  obtain ⟨⟨r1, r2, r3⟩, k, ⟨c1, c2, c3⟩, c4, c5⟩ := C
  have x := f112 H
  have S := fun Q => s55 (E := E) (Q := Q) (v := 64) hn (Kb701 H) r3 (by decide) c3 hf
  have rv := kval_r r3 f (o := 64) (by omega)
  simp +decide (maxSteps := 4000000) (disch := omega) only [k189_0, k189_r, k189_s, F_al0, T_getR, T_I, X_aald, F_il1, T_i2l, T_ret, c55, FX H, x, S, kd_112, ln_112, J_l, ↓reduceIte, TK, lt_run hn, le43, Int.le_refl, Int.lt_irrefl, Option.some.injEq, exists_eq_left', true_and, and_true, if_true, if_false, decide_eq_false_iff_not, decide_eq_true_eq, Nat.reduceAdd, Nat.reduceLeDiff, Nat.reduceLT, Int.reduceAdd, Int.reduceSub, Int.reduceMul, Int.reduceNeg, not_true_eq_false, not_false_eq_true]
  exact Iff.rfl
theorem cmv_r (C : Cm m F X Y Z F' X' Y' Z' h) (f : Int) : (-400 ≤ cmv m F X f 0 ∧ cmv m F X f 0 ≤ 400) ∧ (-400 ≤ cmv m F Y f 0 ∧ cmv m F Y f 0 ≤ 400) ∧ 16 ≤ cmv m F Z f 64 ∧ cmv m F Z f 64 ≤ 256 := ⟨kval_r C.1.1 f (by omega), kval_r C.1.2.1 f (by omega), kval_r C.1.2.2 f (by omega)⟩
/-- the reference's camera at a frame -/
theorem w310 (H : FH hr) (hn : 775 ≤ n) (C : Cm m F X Y Z F' X' Y' Z' h) {f : Int} (hf : 0 ≤ f ∧ f ≤ 119) (k : ∀ h', (h' 704 79 = J (cmv m F X f 0) ∧ h' 704 80 = J (cmv m F Y f 0) ∧ h' 704 81 = J (cmv m F Z f 64)) → Ef (fun a k => a = 704 ∧ (k = 79 ∨ k = 80 ∨ k = 81)) h h' → Q (none, h', hr, n)) : Sp E 310 [.ref 704, .int (J f)] h hr n Q := by
  obtain ⟨⟨r1, r2, r3⟩, ⟨k1, k2, k3⟩, ⟨c1, c2, c3⟩, c4, c5⟩ := C
  have m0 := r1.1.1
  have m1 := r1.1.2
  have m0' : 0 ≤ m := m0
  have m1' : m ≤ 8 := m1
  have l1 : a_ln E 756 = 8 := rfl
  have l2 : a_ln E 757 = 8 := rfl
  have l3 : a_ln E 758 = 8 := rfl
  have l4 : a_ln E 759 = 8 := rfl
  have M1 : KM h 756 757 0 (m, F', X') := fun j j0 j1 => by
    rw [Int.zero_add]
    exact (c5 j j0 j1).1
  simp +decide (maxSteps := 4000000) (disch := omega) only [k310_0, k310_r, k310_s, F_al0, T_getR, T_I, T_getI, F_il1, T_putI, T_putZ, T_ret, c292, FM H, c4, ↓reduceIte, TK, lt_run hn, le43, Int.le_refl, Int.lt_irrefl, Option.some.injEq, exists_eq_left', true_and, and_true, if_true, if_false, decide_eq_false_iff_not, decide_eq_true_eq, Nat.reduceAdd, Nat.reduceLeDiff, Nat.reduceLT, Int.reduceAdd, Int.reduceSub, Int.reduceMul, Int.reduceNeg, not_true_eq_false, not_false_eq_true]
  refine w292 (L := (m, F', X')) hn ⟨rfl, by decide, by decide⟩ ⟨rfl, by decide, by decide⟩ (by omega) (by show 0 + m ≤ a_ln E 756 ∧ _; omega) (by show 0 + m ≤ a_ln E 757 ∧ _; omega) r1 (by decide) (by decide) k1 M1 hf ?_
  have c4' : ∀ v, hI h 704 79 v 704 70 = J m := fun v => by rw [hI_k (by decide)]; exact c4
  simp +decide (maxSteps := 4000000) (disch := omega) only [k310_0, k310_r, k310_s, F_al0, T_getR, T_I, T_getI, F_il1, T_putI, T_putZ, T_ret, c292, FM H, c4', ↓reduceIte, TK, lt_run hn, le43, Int.le_refl, Int.lt_irrefl, Option.some.injEq, exists_eq_left', true_and, and_true, if_true, if_false, decide_eq_false_iff_not, decide_eq_true_eq, Nat.reduceAdd, Nat.reduceLeDiff, Nat.reduceLT, Int.reduceAdd, Int.reduceSub, Int.reduceMul, Int.reduceNeg, not_true_eq_false, not_false_eq_true]
  refine w292 (L := (m, F', Y')) hn ⟨rfl, by decide, by decide⟩ ⟨rfl, by decide, by decide⟩ (by omega) (by show 0 + m ≤ a_ln E 756 ∧ _; omega) (by show 0 + m ≤ a_ln E 758 ∧ _; omega) r2 (by decide) (by decide) k2 (fun j j0 j1 => by rw [Int.zero_add, gA_o (by decide), gA_o (by decide)]; exact ⟨(c5 j j0 j1).1.1, (c5 j j0 j1).2.1⟩) hf ?_
  have c4'' : ∀ v w, hI (hI h 704 79 v) 704 80 w 704 70 = J m := fun v w => by rw [hI_k (by decide)]; exact c4' v
  simp +decide (maxSteps := 4000000) (disch := omega) only [k310_0, k310_r, k310_s, F_al0, T_getR, T_I, T_getI, F_il1, T_putI, T_putZ, T_ret, c292, FM H, c4'', ↓reduceIte, TK, lt_run hn, le43, Int.le_refl, Int.lt_irrefl, Option.some.injEq, exists_eq_left', true_and, and_true, if_true, if_false, decide_eq_false_iff_not, decide_eq_true_eq, Nat.reduceAdd, Nat.reduceLeDiff, Nat.reduceLT, Int.reduceAdd, Int.reduceSub, Int.reduceMul, Int.reduceNeg, not_true_eq_false, not_false_eq_true]
  refine w292 (L := (m, F', Z')) hn ⟨rfl, by decide, by decide⟩ ⟨rfl, by decide, by decide⟩ (by omega) (by show 0 + m ≤ a_ln E 756 ∧ _; omega) (by show 0 + m ≤ a_ln E 759 ∧ _; omega) r3 (by decide) (by decide) k3 (fun j j0 j1 => by rw [Int.zero_add, gA_o (by decide), gA_o (by decide), gA_o (by decide), gA_o (by decide)]; exact ⟨(c5 j j0 j1).1.1, (c5 j j0 j1).2.2⟩) hf ?_
  simp +decide (maxSteps := 4000000) (disch := omega) only [k310_0, k310_r, k310_s, F_al0, T_getR, T_I, T_getI, F_il1, T_putI, T_putZ, T_ret, c292, FM H, ↓reduceIte, TK, lt_run hn, le43, Int.le_refl, Int.lt_irrefl, Option.some.injEq, exists_eq_left', true_and, and_true, if_true, if_false, decide_eq_false_iff_not, decide_eq_true_eq, Nat.reduceAdd, Nat.reduceLeDiff, Nat.reduceLT, Int.reduceAdd, Int.reduceSub, Int.reduceMul, Int.reduceNeg, not_true_eq_false, not_false_eq_true]
  refine k _ ⟨?_, ?_, hI_s⟩ (Ef.hI (Ef.hI (Ef.hI Ef.refl ⟨rfl, Or.inl rfl⟩) ⟨rfl, Or.inr (Or.inl rfl)⟩) ⟨rfl, Or.inr (Or.inr rfl)⟩)
  · rw [hI_k (by decide), hI_k (by decide), hI_s]
    rfl
  · rw [hI_k (by decide), hI_s]
    rfl
theorem mul3 {a b c A B D : Int} (ha : -A ≤ a ∧ a ≤ A) (hb : -B ≤ b ∧ b ≤ B) (hc : -D ≤ c ∧ c ≤ D) : -(A * B * D) ≤ a * b * c ∧ a * b * c ≤ A * B * D := mulb (mulb ha hb) hc
theorem plc_r {mid D c z x : Int} (hm : 0 ≤ mid ∧ mid ≤ 24) (hD : 16 ≤ D ∧ D ≤ 1024) (hc : -400 ≤ c ∧ c ≤ 400) (hz : 16 ≤ z ∧ z ≤ 256) (hx : 0 ≤ x ∧ x ≤ 47) : (-10000000 ≤ (x - mid) * 64 * D + 64 * c * z ∧ (x - mid) * 64 * D + 64 * c * z ≤ 10000000) ∧ (256 ≤ z * D ∧ z * D ≤ 262144) ∧ -20000000 ≤ plc mid D c z x ∧ plc mid D c z x ≤ 20000000 := by
  have m1 := mulb (a := (x - mid) * 64) (b := D) (A := 3072) (B := 1024) (by omega) (by omega)
  have m2 := mulb (a := 64 * c) (b := z) (A := 25600) (B := 256) (by omega) (by omega)
  have m3 := mulb (a := z) (b := D) (A := 256) (B := 1024) (by omega) (by omega)
  have m4 : 256 ≤ z * D := by
    have h1 := Int.mul_le_mul_of_nonneg_left hD.1 (show 0 ≤ z by omega)
    omega
  have m5 := rd_b (a := (x - mid) * 64 * D + 64 * c * z) (b := z * D) (A := 10000000) (by omega) (by omega)
  unfold plc
  omega
theorem s191 (H : FH hr) (hn : 775 ≤ n) (C : Cm m F X Y Z F' X' Y' Z' h) {D : Int → Int} (C7 : ∀ l, 0 ≤ l → l < 4 → h (623 + 3 * l.toNat) 4 = J (D l)) (hD : ∀ l, 16 ≤ D l ∧ D l ≤ 1024) {p a l f : Int} (hp : 0 ≤ p ∧ p ≤ 47) (ha : a = 0 ∨ a = 1) (hl : 0 ≤ l ∧ l < 4) (hf : 0 ≤ f ∧ f ≤ 119) : Sp E 191 [.ref 43, .int (J p), .int (J a), .int (J l), .int (J f)] h hr n Q ↔ Q (some (.int (J (plc (if a = 0 then 24 else 16) (D l) (cmv m F (if a = 0 then X else Y) f 0) (cmv m F Z f 64) p))), h, hr, n) := by
  have S1 := fun Q => s188 (E := E) (Q := Q) H hn C ha hf
  have S2 := fun Q => s189 (E := E) (Q := Q) H hn C hf
  have x1 := X90 E H hl.1 hl.2
  have d1 := C7 l hl.1 hl.2
  have dr := hD l
  have cr := cmv_r C f
  rcases ha with rfl | rfl
  · rw [if_pos rfl, if_pos rfl]
    simp only [if_true] at S1
    have pr := plc_r (mid := 24) (x := p) (by omega) dr cr.1 cr.2.2 hp
    unfold plc at pr ⊢
    generalize cmv m F X f 0 = cx at *
    generalize cmv m F Z f 64 = cz at *
    simp +decide (maxSteps := 4000000) (disch := omega) only [k191_0, k191_1, k191_2, k191_r, k191_s, F_al0, T_getR, F_il3, X_aald, T_getI, T_i2l, T_lst, F_il4, F_il2, J_ifne, T_I, T_goto, T_ft, F_is9i, F_is9r, F_is9m, F_il1, F_il9, T_sub, F_ll10, T_L, T_mulL, F_ll5, F_ll7, T_addL, T_add, T_ret, c146, c188, c189, ↓s146, FX H, x1, d1, S1, S2, kd_90, ln_90, J_l, ↓reduceIte, TK, lt_run hn, le43, Int.le_refl, Int.lt_irrefl, Option.some.injEq, exists_eq_left', true_and, and_true, if_true, if_false, decide_eq_false_iff_not, decide_eq_true_eq, Nat.reduceAdd, Nat.reduceLeDiff, Nat.reduceLT, Int.reduceAdd, Int.reduceSub, Int.reduceMul, Int.reduceNeg, not_true_eq_false, not_false_eq_true]
  · rw [if_neg (by decide), if_neg (by decide)]
    simp only [show ¬ (1 : Int) = 0 by decide, if_false] at S1
    have pr := plc_r (mid := 16) (x := p) (by omega) dr cr.2.1 cr.2.2 hp
    unfold plc at pr ⊢
    generalize cmv m F Y f 0 = cx at *
    generalize cmv m F Z f 64 = cz at *
    simp +decide (maxSteps := 4000000) (disch := omega) only [k191_0, k191_1, k191_2, k191_r, k191_s, F_al0, T_getR, F_il3, X_aald, T_getI, T_i2l, T_lst, F_il4, F_il2, J_ifne, T_I, T_goto, T_ft, F_is9i, F_is9r, F_is9m, F_il1, F_il9, T_sub, F_ll10, T_L, T_mulL, F_ll5, F_ll7, T_addL, T_add, T_ret, c146, c188, c189, ↓s146, FX H, x1, d1, S1, S2, kd_90, ln_90, J_l, ↓reduceIte, TK, lt_run hn, le43, Int.le_refl, Int.lt_irrefl, Option.some.injEq, exists_eq_left', true_and, and_true, if_true, if_false, decide_eq_false_iff_not, decide_eq_true_eq, Nat.reduceAdd, Nat.reduceLeDiff, Nat.reduceLT, Int.reduceAdd, Int.reduceSub, Int.reduceMul, Int.reduceNeg, not_true_eq_false, not_false_eq_true]
theorem s312 (H : FH hr) (hn : 775 ≤ n) {l x D c z : Int} (d1 : gA h 760 l = J D) (c1 : h 704 79 = J c) (c3 : h 704 81 = J z) (hD : 16 ≤ D ∧ D ≤ 1024) (hc : -400 ≤ c ∧ c ≤ 400) (hz : 16 ≤ z ∧ z ≤ 256) (hl : 0 ≤ l ∧ l < 4) (hx : 0 ≤ x ∧ x ≤ 47) : Sp E 312 [.ref 704, .int (J l), .int (J x)] h hr n Q ↔ Q (some (.int (J (plc 24 D c z x))), h, hr, n) := by
  have pr := plc_r (mid := 24) (x := x) (by omega) hD hc hz hx
  unfold plc at pr ⊢
  simp +decide (maxSteps := 4000000) (disch := omega) only [k312_0, k312_r, k312_s, T_I, F_il2, T_sub, T_i2l, T_L, T_mulL, F_al0, T_getR, F_il1, X_iald, T_getI, T_addL, T_add, T_ret, c243, ↓s243, FM H, d1, c1, c3, ln_760, J_l, ↓reduceIte, TK, lt_run hn, le43, Int.le_refl, Int.lt_irrefl, Option.some.injEq, exists_eq_left', true_and, and_true, if_true, if_false, decide_eq_false_iff_not, decide_eq_true_eq, Nat.reduceAdd, Nat.reduceLeDiff, Nat.reduceLT, Int.reduceAdd, Int.reduceSub, Int.reduceMul, Int.reduceNeg, not_true_eq_false, not_false_eq_true]
theorem s313 (H : FH hr) (hn : 775 ≤ n) {l x D c z : Int} (d1 : gA h 760 l = J D) (c1 : h 704 80 = J c) (c3 : h 704 81 = J z) (hD : 16 ≤ D ∧ D ≤ 1024) (hc : -400 ≤ c ∧ c ≤ 400) (hz : 16 ≤ z ∧ z ≤ 256) (hl : 0 ≤ l ∧ l < 4) (hx : 0 ≤ x ∧ x ≤ 47) : Sp E 313 [.ref 704, .int (J l), .int (J x)] h hr n Q ↔ Q (some (.int (J (plc 16 D c z x))), h, hr, n) := by
  have pr := plc_r (mid := 16) (x := x) (by omega) hD hc hz hx
  unfold plc at pr ⊢
  simp +decide (maxSteps := 4000000) (disch := omega) only [k313_0, k313_r, k313_s, T_I, F_il2, T_sub, T_i2l, T_L, T_mulL, F_al0, T_getR, F_il1, X_iald, T_getI, T_addL, T_add, T_ret, c243, ↓s243, FM H, d1, c1, c3, ln_760, J_l, ↓reduceIte, TK, lt_run hn, le43, Int.le_refl, Int.lt_irrefl, Option.some.injEq, exists_eq_left', true_and, and_true, if_true, if_false, decide_eq_false_iff_not, decide_eq_true_eq, Nat.reduceAdd, Nat.reduceLeDiff, Nat.reduceLT, Int.reduceAdd, Int.reduceSub, Int.reduceMul, Int.reduceNeg, not_true_eq_false, not_false_eq_true]
theorem Pseen (H : FH hr) (hn : 775 ≤ n) (C : Cp15 h) (C7 : Cp7 h) (x y z w u : Int32) : Pr2 E 187 309 [.int x, .int y, .int z, .int w, .int u] h hr n (Po (fun _ => True) 0 0 h hr n) := by
  obtain ⟨m, F, X, Y, Z, F', X', Y', Z', C⟩ := C
  obtain ⟨D, hD, hd⟩ := C7
  obtain ⟨l, hl, hl', rfl⟩ := J_of x
  obtain ⟨a, ha, ha', rfl⟩ := J_of y
  obtain ⟨b, hb, hb', rfl⟩ := J_of z
  obtain ⟨f, hf, hf', rfl⟩ := J_of w
  obtain ⟨c, hc, hc', rfl⟩ := J_of u
  unfold Pr2
  by_cases g1 : 0 ≤ l ∧ l ≤ 3
  case neg =>
    simp +decide (maxSteps := 4000000) (disch := omega) only [k187_0, k187_1, k187_2, k187_3, k187_4, k187_5, k187_6, k187_r, k187_s, F_il1, J_ifeq, F_il2, F_il3, F_il4, F_il5, T_I, J_ifne, T_ft, T_ret, F_al0, T_getR, X_aald, T_getI, T_i2l, T_lst, T_goto, F_is8i, F_is8r, F_is8m, F_il8, T_sub, F_ll9, F_ll6, T_mulL, T_L, T_subL, T_add, c138, c146, c158, c171, c173, c188, c189, ↓s138, ↓s146, ↓s158, ↓s171, ↓s173, ↓s188, ↓s189, FX H, g1, ↓reduceIte, TK, lt_run hn, le43, Int.le_refl, Int.lt_irrefl, Option.some.injEq, exists_eq_left', true_and, and_true, if_true, if_false, decide_eq_false_iff_not, decide_eq_true_eq, Nat.reduceAdd, Nat.reduceLeDiff, Nat.reduceLT, Int.reduceAdd, Int.reduceSub, Int.reduceMul, Int.reduceNeg, not_true_eq_false, not_false_eq_true]
    refine ⟨_, rfl, ?_⟩
    simp +decide (maxSteps := 4000000) (disch := omega) only [k309_0, k309_1, k309_2, k309_3, k309_r, k309_s, F_il1, J_ifeq, F_il2, T_I, F_il3, F_il4, F_il5, J_ifne, T_ft, T_ret, F_al0, T_L, T_getR, X_iald, T_i2l, T_mulL, T_lst, T_sub, T_getI, T_subL, F_ll6, T_add, c219, c243, c264, c287, c310, ↓s219, ↓s243, ↓s264, ↓s287, FM H, g1, ↓reduceIte, TK, lt_run hn, le43, Int.le_refl, Int.lt_irrefl, Option.some.injEq, exists_eq_left', true_and, and_true, if_true, if_false, decide_eq_false_iff_not, decide_eq_true_eq, Nat.reduceAdd, Nat.reduceLeDiff, Nat.reduceLT, Int.reduceAdd, Int.reduceSub, Int.reduceMul, Int.reduceNeg, not_true_eq_false, not_false_eq_true]
    first | exact ⟨rfl, ⟨trivial, Kp.refl⟩, rfl, rfl⟩ | exact ⟨⟨trivial, Kp.refl⟩, rfl, rfl⟩ | exact ⟨trivial, Kp.refl⟩
  by_cases g2 : -400 ≤ a ∧ a ≤ 400
  case neg =>
    simp +decide (maxSteps := 4000000) (disch := omega) only [k187_0, k187_1, k187_2, k187_3, k187_4, k187_5, k187_6, k187_r, k187_s, F_il1, J_ifeq, F_il2, F_il3, F_il4, F_il5, T_I, J_ifne, T_ft, T_ret, F_al0, T_getR, X_aald, T_getI, T_i2l, T_lst, T_goto, F_is8i, F_is8r, F_is8m, F_il8, T_sub, F_ll9, F_ll6, T_mulL, T_L, T_subL, T_add, c138, c146, c158, c171, c173, c188, c189, ↓s138, ↓s146, ↓s158, ↓s171, ↓s173, ↓s188, ↓s189, FX H, g1, g2, ↓reduceIte, TK, lt_run hn, le43, Int.le_refl, Int.lt_irrefl, Option.some.injEq, exists_eq_left', true_and, and_true, if_true, if_false, decide_eq_false_iff_not, decide_eq_true_eq, Nat.reduceAdd, Nat.reduceLeDiff, Nat.reduceLT, Int.reduceAdd, Int.reduceSub, Int.reduceMul, Int.reduceNeg, not_true_eq_false, not_false_eq_true]
    refine ⟨_, rfl, ?_⟩
    simp +decide (maxSteps := 4000000) (disch := omega) only [k309_0, k309_1, k309_2, k309_3, k309_r, k309_s, F_il1, J_ifeq, F_il2, T_I, F_il3, F_il4, F_il5, J_ifne, T_ft, T_ret, F_al0, T_L, T_getR, X_iald, T_i2l, T_mulL, T_lst, T_sub, T_getI, T_subL, F_ll6, T_add, c219, c243, c264, c287, c310, ↓s219, ↓s243, ↓s264, ↓s287, FM H, g1, g2, ↓reduceIte, TK, lt_run hn, le43, Int.le_refl, Int.lt_irrefl, Option.some.injEq, exists_eq_left', true_and, and_true, if_true, if_false, decide_eq_false_iff_not, decide_eq_true_eq, Nat.reduceAdd, Nat.reduceLeDiff, Nat.reduceLT, Int.reduceAdd, Int.reduceSub, Int.reduceMul, Int.reduceNeg, not_true_eq_false, not_false_eq_true]
    first | exact ⟨rfl, ⟨trivial, Kp.refl⟩, rfl, rfl⟩ | exact ⟨⟨trivial, Kp.refl⟩, rfl, rfl⟩ | exact ⟨trivial, Kp.refl⟩
  by_cases g3 : -400 ≤ b ∧ b ≤ 400
  case neg =>
    simp +decide (maxSteps := 4000000) (disch := omega) only [k187_0, k187_1, k187_2, k187_3, k187_4, k187_5, k187_6, k187_r, k187_s, F_il1, J_ifeq, F_il2, F_il3, F_il4, F_il5, T_I, J_ifne, T_ft, T_ret, F_al0, T_getR, X_aald, T_getI, T_i2l, T_lst, T_goto, F_is8i, F_is8r, F_is8m, F_il8, T_sub, F_ll9, F_ll6, T_mulL, T_L, T_subL, T_add, c138, c146, c158, c171, c173, c188, c189, ↓s138, ↓s146, ↓s158, ↓s171, ↓s173, ↓s188, ↓s189, FX H, g1, g2, g3, ↓reduceIte, TK, lt_run hn, le43, Int.le_refl, Int.lt_irrefl, Option.some.injEq, exists_eq_left', true_and, and_true, if_true, if_false, decide_eq_false_iff_not, decide_eq_true_eq, Nat.reduceAdd, Nat.reduceLeDiff, Nat.reduceLT, Int.reduceAdd, Int.reduceSub, Int.reduceMul, Int.reduceNeg, not_true_eq_false, not_false_eq_true]
    refine ⟨_, rfl, ?_⟩
    simp +decide (maxSteps := 4000000) (disch := omega) only [k309_0, k309_1, k309_2, k309_3, k309_r, k309_s, F_il1, J_ifeq, F_il2, T_I, F_il3, F_il4, F_il5, J_ifne, T_ft, T_ret, F_al0, T_L, T_getR, X_iald, T_i2l, T_mulL, T_lst, T_sub, T_getI, T_subL, F_ll6, T_add, c219, c243, c264, c287, c310, ↓s219, ↓s243, ↓s264, ↓s287, FM H, g1, g2, g3, ↓reduceIte, TK, lt_run hn, le43, Int.le_refl, Int.lt_irrefl, Option.some.injEq, exists_eq_left', true_and, and_true, if_true, if_false, decide_eq_false_iff_not, decide_eq_true_eq, Nat.reduceAdd, Nat.reduceLeDiff, Nat.reduceLT, Int.reduceAdd, Int.reduceSub, Int.reduceMul, Int.reduceNeg, not_true_eq_false, not_false_eq_true]
    first | exact ⟨rfl, ⟨trivial, Kp.refl⟩, rfl, rfl⟩ | exact ⟨⟨trivial, Kp.refl⟩, rfl, rfl⟩ | exact ⟨trivial, Kp.refl⟩
  by_cases g4 : 0 ≤ f ∧ f ≤ 119
  case neg =>
    simp +decide (maxSteps := 4000000) (disch := omega) only [k187_0, k187_1, k187_2, k187_3, k187_4, k187_5, k187_6, k187_r, k187_s, F_il1, J_ifeq, F_il2, F_il3, F_il4, F_il5, T_I, J_ifne, T_ft, T_ret, F_al0, T_getR, X_aald, T_getI, T_i2l, T_lst, T_goto, F_is8i, F_is8r, F_is8m, F_il8, T_sub, F_ll9, F_ll6, T_mulL, T_L, T_subL, T_add, c138, c146, c158, c171, c173, c188, c189, ↓s138, ↓s146, ↓s158, ↓s171, ↓s173, ↓s188, ↓s189, FX H, g1, g2, g3, g4, ↓reduceIte, TK, lt_run hn, le43, Int.le_refl, Int.lt_irrefl, Option.some.injEq, exists_eq_left', true_and, and_true, if_true, if_false, decide_eq_false_iff_not, decide_eq_true_eq, Nat.reduceAdd, Nat.reduceLeDiff, Nat.reduceLT, Int.reduceAdd, Int.reduceSub, Int.reduceMul, Int.reduceNeg, not_true_eq_false, not_false_eq_true]
    refine ⟨_, rfl, ?_⟩
    simp +decide (maxSteps := 4000000) (disch := omega) only [k309_0, k309_1, k309_2, k309_3, k309_r, k309_s, F_il1, J_ifeq, F_il2, T_I, F_il3, F_il4, F_il5, J_ifne, T_ft, T_ret, F_al0, T_L, T_getR, X_iald, T_i2l, T_mulL, T_lst, T_sub, T_getI, T_subL, F_ll6, T_add, c219, c243, c264, c287, c310, ↓s219, ↓s243, ↓s264, ↓s287, FM H, g1, g2, g3, g4, ↓reduceIte, TK, lt_run hn, le43, Int.le_refl, Int.lt_irrefl, Option.some.injEq, exists_eq_left', true_and, and_true, if_true, if_false, decide_eq_false_iff_not, decide_eq_true_eq, Nat.reduceAdd, Nat.reduceLeDiff, Nat.reduceLT, Int.reduceAdd, Int.reduceSub, Int.reduceMul, Int.reduceNeg, not_true_eq_false, not_false_eq_true]
    first | exact ⟨rfl, ⟨trivial, Kp.refl⟩, rfl, rfl⟩ | exact ⟨⟨trivial, Kp.refl⟩, rfl, rfl⟩ | exact ⟨trivial, Kp.refl⟩
  by_cases g5 : 0 ≤ c ∧ c ≤ 1
  case neg =>
    simp +decide (maxSteps := 4000000) (disch := omega) only [k187_0, k187_1, k187_2, k187_3, k187_4, k187_5, k187_6, k187_r, k187_s, F_il1, J_ifeq, F_il2, F_il3, F_il4, F_il5, T_I, J_ifne, T_ft, T_ret, F_al0, T_getR, X_aald, T_getI, T_i2l, T_lst, T_goto, F_is8i, F_is8r, F_is8m, F_il8, T_sub, F_ll9, F_ll6, T_mulL, T_L, T_subL, T_add, c138, c146, c158, c171, c173, c188, c189, ↓s138, ↓s146, ↓s158, ↓s171, ↓s173, ↓s188, ↓s189, FX H, g1, g2, g3, g4, g5, ↓reduceIte, TK, lt_run hn, le43, Int.le_refl, Int.lt_irrefl, Option.some.injEq, exists_eq_left', true_and, and_true, if_true, if_false, decide_eq_false_iff_not, decide_eq_true_eq, Nat.reduceAdd, Nat.reduceLeDiff, Nat.reduceLT, Int.reduceAdd, Int.reduceSub, Int.reduceMul, Int.reduceNeg, not_true_eq_false, not_false_eq_true]
    refine ⟨_, rfl, ?_⟩
    simp +decide (maxSteps := 4000000) (disch := omega) only [k309_0, k309_1, k309_2, k309_3, k309_r, k309_s, F_il1, J_ifeq, F_il2, T_I, F_il3, F_il4, F_il5, J_ifne, T_ft, T_ret, F_al0, T_L, T_getR, X_iald, T_i2l, T_mulL, T_lst, T_sub, T_getI, T_subL, F_ll6, T_add, c219, c243, c264, c287, c310, ↓s219, ↓s243, ↓s264, ↓s287, FM H, g1, g2, g3, g4, g5, ↓reduceIte, TK, lt_run hn, le43, Int.le_refl, Int.lt_irrefl, Option.some.injEq, exists_eq_left', true_and, and_true, if_true, if_false, decide_eq_false_iff_not, decide_eq_true_eq, Nat.reduceAdd, Nat.reduceLeDiff, Nat.reduceLT, Int.reduceAdd, Int.reduceSub, Int.reduceMul, Int.reduceNeg, not_true_eq_false, not_false_eq_true]
    first | exact ⟨rfl, ⟨trivial, Kp.refl⟩, rfl, rfl⟩ | exact ⟨⟨trivial, Kp.refl⟩, rfl, rfl⟩ | exact ⟨trivial, Kp.refl⟩
  have x1 := X90 E H g1.1 (show l < 4 by omega)
  obtain ⟨d1, d2⟩ := hd l g1.1 (by omega)
  have dr := hD l
  have cr := cmv_r C f
  have fin : ∀ h1, Ef (fun a k => a = 704 ∧ (k = 79 ∨ k = 80 ∨ k = 81)) h h1 → Po (fun _ => True) 0 0 h hr n h1 hr n := fun h1 e1 => ⟨⟨trivial, Kp.of e1 (fun x k q => by
    rcases q with ⟨rfl, rfl | rfl | rfl⟩ <;> exact Or.inl rfl)⟩, rfl, rfl⟩
  rcases (show c = 0 ∨ c = 1 by omega) with rfl | rfl
  · have S1 := fun Q => s188 (E := E) (Q := Q) H hn C (a := 0) (Or.inl rfl) g4
    have S2 := fun Q => s189 (E := E) (Q := Q) H hn C g4
    simp only [if_true] at S1
    have W := fun k => w310 (E := E) (Q := k) H hn C g4
    generalize cmv m F X f 0 = cx at *
    generalize cmv m F Y f 0 = cy at *
    generalize cmv m F Z f 64 = cz at *
    have m1 := mulb (a := a - 24) (b := D l) (A := 424) (B := 1024) (by omega) (by omega)
    have m2 := mulb (a := (a - 24) * D l - 64 * cx) (b := cz) (A := 500000) (B := 256) (by omega) (by omega)
    simp +decide (maxSteps := 4000000) (disch := omega) only [k187_0, k187_1, k187_2, k187_3, k187_4, k187_5, k187_6, k187_r, k187_s, F_il1, J_ifeq, F_il2, F_il3, F_il4, F_il5, T_I, J_ifne, T_ft, T_ret, F_al0, T_getR, X_aald, T_getI, T_i2l, T_lst, T_goto, F_is8i, F_is8r, F_is8m, F_il8, T_sub, F_ll9, F_ll6, T_mulL, T_L, T_subL, T_add, c138, c146, c158, c171, c173, c188, c189, ↓s138, ↓s146, ↓s158, ↓s171, ↓s173, FX H, g1, g2, g3, g4, x1, d1, S1, S2, kd_90, ln_90, J_l, ↓reduceIte, TK, lt_run hn, le43, Int.le_refl, Int.lt_irrefl, Option.some.injEq, exists_eq_left', true_and, and_true, if_true, if_false, decide_eq_false_iff_not, decide_eq_true_eq, Nat.reduceAdd, Nat.reduceLeDiff, Nat.reduceLT, Int.reduceAdd, Int.reduceSub, Int.reduceMul, Int.reduceNeg, not_true_eq_false, not_false_eq_true]
    refine ⟨_, rfl, ?_⟩
    simp +decide (maxSteps := 4000000) (disch := omega) only [k309_0, k309_1, k309_2, k309_3, k309_r, k309_s, F_il1, J_ifeq, F_il2, T_I, F_il3, F_il4, F_il5, J_ifne, T_ft, T_ret, F_al0, T_L, T_getR, X_iald, T_i2l, T_mulL, T_lst, T_sub, T_getI, T_subL, F_ll6, T_add, c219, c243, c264, c287, c310, ↓s219, ↓s243, ↓s264, ↓s287, FM H, g1, g2, g3, g4, ↓reduceIte, TK, lt_run hn, le43, Int.le_refl, Int.lt_irrefl, Option.some.injEq, exists_eq_left', true_and, and_true, if_true, if_false, decide_eq_false_iff_not, decide_eq_true_eq, Nat.reduceAdd, Nat.reduceLeDiff, Nat.reduceLT, Int.reduceAdd, Int.reduceSub, Int.reduceMul, Int.reduceNeg, not_true_eq_false, not_false_eq_true]
    refine W _ (fun h1 q1 e1 => ?_)
    have d3 : gA h1 760 l = J (D l) := by
      rw [e1.g (by omega)]
      exact d2
    simp +decide (maxSteps := 4000000) (disch := omega) only [k309_0, k309_1, k309_2, k309_3, k309_r, k309_s, F_il1, J_ifeq, F_il2, T_I, F_il3, F_il4, F_il5, J_ifne, T_ft, T_ret, F_al0, T_L, T_getR, X_iald, T_i2l, T_mulL, T_lst, T_sub, T_getI, T_subL, F_ll6, T_add, c219, c243, c264, c287, c310, ↓s219, ↓s243, ↓s264, ↓s287, FM H, d3, q1, ln_760, J_l, ↓reduceIte, TK, lt_run hn, le43, Int.le_refl, Int.lt_irrefl, Option.some.injEq, exists_eq_left', true_and, and_true, if_true, if_false, decide_eq_false_iff_not, decide_eq_true_eq, Nat.reduceAdd, Nat.reduceLeDiff, Nat.reduceLT, Int.reduceAdd, Int.reduceSub, Int.reduceMul, Int.reduceNeg, not_true_eq_false, not_false_eq_true]
    exact fin h1 e1
  · have S1 := fun Q => s188 (E := E) (Q := Q) H hn C (a := 1) (Or.inr rfl) g4
    have S2 := fun Q => s189 (E := E) (Q := Q) H hn C g4
    simp only [show ¬ (1 : Int) = 0 by decide, if_false] at S1
    have W := fun k => w310 (E := E) (Q := k) H hn C g4
    generalize cmv m F X f 0 = cx at *
    generalize cmv m F Y f 0 = cy at *
    generalize cmv m F Z f 64 = cz at *
    have m1 := mulb (a := b - 16) (b := D l) (A := 424) (B := 1024) (by omega) (by omega)
    have m2 := mulb (a := (b - 16) * D l - 64 * cy) (b := cz) (A := 500000) (B := 256) (by omega) (by omega)
    simp +decide (maxSteps := 4000000) (disch := omega) only [k187_0, k187_1, k187_2, k187_3, k187_4, k187_5, k187_6, k187_r, k187_s, F_il1, J_ifeq, F_il2, F_il3, F_il4, F_il5, T_I, J_ifne, T_ft, T_ret, F_al0, T_getR, X_aald, T_getI, T_i2l, T_lst, T_goto, F_is8i, F_is8r, F_is8m, F_il8, T_sub, F_ll9, F_ll6, T_mulL, T_L, T_subL, T_add, c138, c146, c158, c171, c173, c188, c189, ↓s138, ↓s146, ↓s158, ↓s171, ↓s173, FX H, g1, g2, g3, g4, x1, d1, S1, S2, kd_90, ln_90, J_l, ↓reduceIte, TK, lt_run hn, le43, Int.le_refl, Int.lt_irrefl, Option.some.injEq, exists_eq_left', true_and, and_true, if_true, if_false, decide_eq_false_iff_not, decide_eq_true_eq, Nat.reduceAdd, Nat.reduceLeDiff, Nat.reduceLT, Int.reduceAdd, Int.reduceSub, Int.reduceMul, Int.reduceNeg, not_true_eq_false, not_false_eq_true]
    refine ⟨_, rfl, ?_⟩
    simp +decide (maxSteps := 4000000) (disch := omega) only [k309_0, k309_1, k309_2, k309_3, k309_r, k309_s, F_il1, J_ifeq, F_il2, T_I, F_il3, F_il4, F_il5, J_ifne, T_ft, T_ret, F_al0, T_L, T_getR, X_iald, T_i2l, T_mulL, T_lst, T_sub, T_getI, T_subL, F_ll6, T_add, c219, c243, c264, c287, c310, ↓s219, ↓s243, ↓s264, ↓s287, FM H, g1, g2, g3, g4, ↓reduceIte, TK, lt_run hn, le43, Int.le_refl, Int.lt_irrefl, Option.some.injEq, exists_eq_left', true_and, and_true, if_true, if_false, decide_eq_false_iff_not, decide_eq_true_eq, Nat.reduceAdd, Nat.reduceLeDiff, Nat.reduceLT, Int.reduceAdd, Int.reduceSub, Int.reduceMul, Int.reduceNeg, not_true_eq_false, not_false_eq_true]
    refine W _ (fun h1 q1 e1 => ?_)
    have d3 : gA h1 760 l = J (D l) := by
      rw [e1.g (by omega)]
      exact d2
    simp +decide (maxSteps := 4000000) (disch := omega) only [k309_0, k309_1, k309_2, k309_3, k309_r, k309_s, F_il1, J_ifeq, F_il2, T_I, F_il3, F_il4, F_il5, J_ifne, T_ft, T_ret, F_al0, T_L, T_getR, X_iald, T_i2l, T_mulL, T_lst, T_sub, T_getI, T_subL, F_ll6, T_add, c219, c243, c264, c287, c310, ↓s219, ↓s243, ↓s264, ↓s287, FM H, d3, q1, ln_760, J_l, ↓reduceIte, TK, lt_run hn, le43, Int.le_refl, Int.lt_irrefl, Option.some.injEq, exists_eq_left', true_and, and_true, if_true, if_false, decide_eq_false_iff_not, decide_eq_true_eq, Nat.reduceAdd, Nat.reduceLeDiff, Nat.reduceLT, Int.reduceAdd, Int.reduceSub, Int.reduceMul, Int.reduceNeg, not_true_eq_false, not_false_eq_true]
    exact fin h1 e1
/-- what the camera shows of the paper's corners -/
def cut (D cx cy cz : Int) : Prop := ((0 ≤ plc 24 D cx cz 0 ∧ plc 24 D cx cz 0 ≤ 47) ∧ 0 ≤ plc 16 D cy cz 0 ∧ plc 16 D cy cz 0 ≤ 31) ∧ (0 ≤ plc 24 D cx cz 47 ∧ plc 24 D cx cz 47 ≤ 47) ∧ 0 ≤ plc 16 D cy cz 31 ∧ plc 16 D cy cz 31 ≤ 31
theorem PcutOff (H : FH hr) (hn : 775 ≤ n) (C : Cp15 h) (C7 : Cp7 h) (x y z : Int32) : Pr2 E 190 311 [.int x, .int y, .int z] h hr n (Po (fun _ => True) 0 0 h hr n) := by
  obtain ⟨m, F, X, Y, Z, F', X', Y', Z', C⟩ := C
  obtain ⟨D, hD, hd⟩ := C7
  obtain ⟨l, hl, hl', rfl⟩ := J_of x
  obtain ⟨a, ha, ha', rfl⟩ := J_of y
  obtain ⟨b, hb, hb', rfl⟩ := J_of z
  unfold Pr2
  by_cases g1 : 0 ≤ l ∧ l ≤ 3
  case neg =>
    simp +decide (maxSteps := 4000000) (disch := omega) only [k190_0, k190_1, k190_2, k190_4, k190_5, k190_6, k190_r, k190_s, F_il1, J_ifeq, F_il2, F_il3, J_ifne, T_ft, T_I, T_ret, F_is4i, F_is4r, F_is4m, F_il4, T_icgt, F_al0, F_is5i, F_is5r, F_is5m, F_is6i, F_is6r, F_is6m, F_il5, F_il6, F_inc4i, F_inc4r, F_inc4m, T_goto, c145, c158, c173, c191, ↓s145, ↓s158, ↓s173, ↓s191, FX H, g1, ↓reduceIte, TK, lt_run hn, le43, Int.le_refl, Int.lt_irrefl, Option.some.injEq, exists_eq_left', true_and, and_true, if_true, if_false, decide_eq_false_iff_not, decide_eq_true_eq, Nat.reduceAdd, Nat.reduceLeDiff, Nat.reduceLT, Int.reduceAdd, Int.reduceSub, Int.reduceMul, Int.reduceNeg, not_true_eq_false, not_false_eq_true]
    refine ⟨_, rfl, ?_⟩
    simp +decide (maxSteps := 4000000) (disch := omega) only [k311_0, k311_1, k311_2, k311_4, k311_5, k311_6, k311_r, k311_s, F_il1, J_ifeq, F_il2, F_il3, J_ifne, T_ft, T_I, T_ret, F_is4i, F_is4r, F_is4m, F_il4, T_icgt, F_al0, F_inc4i, F_inc4r, F_inc4m, T_goto, c237, c264, c287, c310, c312, c313, ↓s237, ↓s264, ↓s287, ↓s312, ↓s313, FM H, g1, ↓reduceIte, TK, lt_run hn, le43, Int.le_refl, Int.lt_irrefl, Option.some.injEq, exists_eq_left', true_and, and_true, if_true, if_false, decide_eq_false_iff_not, decide_eq_true_eq, Nat.reduceAdd, Nat.reduceLeDiff, Nat.reduceLT, Int.reduceAdd, Int.reduceSub, Int.reduceMul, Int.reduceNeg, not_true_eq_false, not_false_eq_true]
    first | exact ⟨rfl, ⟨trivial, Kp.refl⟩, rfl, rfl⟩ | exact ⟨⟨trivial, Kp.refl⟩, rfl, rfl⟩ | exact ⟨trivial, Kp.refl⟩
  by_cases g2 : 0 ≤ a ∧ a ≤ 119
  case neg =>
    simp +decide (maxSteps := 4000000) (disch := omega) only [k190_0, k190_1, k190_2, k190_4, k190_5, k190_6, k190_r, k190_s, F_il1, J_ifeq, F_il2, F_il3, J_ifne, T_ft, T_I, T_ret, F_is4i, F_is4r, F_is4m, F_il4, T_icgt, F_al0, F_is5i, F_is5r, F_is5m, F_is6i, F_is6r, F_is6m, F_il5, F_il6, F_inc4i, F_inc4r, F_inc4m, T_goto, c145, c158, c173, c191, ↓s145, ↓s158, ↓s173, ↓s191, FX H, g1, g2, ↓reduceIte, TK, lt_run hn, le43, Int.le_refl, Int.lt_irrefl, Option.some.injEq, exists_eq_left', true_and, and_true, if_true, if_false, decide_eq_false_iff_not, decide_eq_true_eq, Nat.reduceAdd, Nat.reduceLeDiff, Nat.reduceLT, Int.reduceAdd, Int.reduceSub, Int.reduceMul, Int.reduceNeg, not_true_eq_false, not_false_eq_true]
    refine ⟨_, rfl, ?_⟩
    simp +decide (maxSteps := 4000000) (disch := omega) only [k311_0, k311_1, k311_2, k311_4, k311_5, k311_6, k311_r, k311_s, F_il1, J_ifeq, F_il2, F_il3, J_ifne, T_ft, T_I, T_ret, F_is4i, F_is4r, F_is4m, F_il4, T_icgt, F_al0, F_inc4i, F_inc4r, F_inc4m, T_goto, c237, c264, c287, c310, c312, c313, ↓s237, ↓s264, ↓s287, ↓s312, ↓s313, FM H, g1, g2, ↓reduceIte, TK, lt_run hn, le43, Int.le_refl, Int.lt_irrefl, Option.some.injEq, exists_eq_left', true_and, and_true, if_true, if_false, decide_eq_false_iff_not, decide_eq_true_eq, Nat.reduceAdd, Nat.reduceLeDiff, Nat.reduceLT, Int.reduceAdd, Int.reduceSub, Int.reduceMul, Int.reduceNeg, not_true_eq_false, not_false_eq_true]
    first | exact ⟨rfl, ⟨trivial, Kp.refl⟩, rfl, rfl⟩ | exact ⟨⟨trivial, Kp.refl⟩, rfl, rfl⟩ | exact ⟨trivial, Kp.refl⟩
  by_cases g3 : 0 ≤ b ∧ b ≤ 119
  case neg =>
    simp +decide (maxSteps := 4000000) (disch := omega) only [k190_0, k190_1, k190_2, k190_4, k190_5, k190_6, k190_r, k190_s, F_il1, J_ifeq, F_il2, F_il3, J_ifne, T_ft, T_I, T_ret, F_is4i, F_is4r, F_is4m, F_il4, T_icgt, F_al0, F_is5i, F_is5r, F_is5m, F_is6i, F_is6r, F_is6m, F_il5, F_il6, F_inc4i, F_inc4r, F_inc4m, T_goto, c145, c158, c173, c191, ↓s145, ↓s158, ↓s173, ↓s191, FX H, g1, g2, g3, ↓reduceIte, TK, lt_run hn, le43, Int.le_refl, Int.lt_irrefl, Option.some.injEq, exists_eq_left', true_and, and_true, if_true, if_false, decide_eq_false_iff_not, decide_eq_true_eq, Nat.reduceAdd, Nat.reduceLeDiff, Nat.reduceLT, Int.reduceAdd, Int.reduceSub, Int.reduceMul, Int.reduceNeg, not_true_eq_false, not_false_eq_true]
    refine ⟨_, rfl, ?_⟩
    simp +decide (maxSteps := 4000000) (disch := omega) only [k311_0, k311_1, k311_2, k311_4, k311_5, k311_6, k311_r, k311_s, F_il1, J_ifeq, F_il2, F_il3, J_ifne, T_ft, T_I, T_ret, F_is4i, F_is4r, F_is4m, F_il4, T_icgt, F_al0, F_inc4i, F_inc4r, F_inc4m, T_goto, c237, c264, c287, c310, c312, c313, ↓s237, ↓s264, ↓s287, ↓s312, ↓s313, FM H, g1, g2, g3, ↓reduceIte, TK, lt_run hn, le43, Int.le_refl, Int.lt_irrefl, Option.some.injEq, exists_eq_left', true_and, and_true, if_true, if_false, decide_eq_false_iff_not, decide_eq_true_eq, Nat.reduceAdd, Nat.reduceLeDiff, Nat.reduceLT, Int.reduceAdd, Int.reduceSub, Int.reduceMul, Int.reduceNeg, not_true_eq_false, not_false_eq_true]
    first | exact ⟨rfl, ⟨trivial, Kp.refl⟩, rfl, rfl⟩ | exact ⟨⟨trivial, Kp.refl⟩, rfl, rfl⟩ | exact ⟨trivial, Kp.refl⟩
  have dr := hD l
  have dl := hd l g1.1 (by omega)
  have fin : ∀ h1, Ef (fun a k => a = 704 ∧ (k = 79 ∨ k = 80 ∨ k = 81)) h h1 → Po (fun _ => True) 0 0 h hr n h1 hr n := fun h1 e1 => ⟨⟨trivial, Kp.of e1 (fun x k q => by
    rcases q with ⟨rfl, rfl | rfl | rfl⟩ <;> exact Or.inl rfl)⟩, rfl, rfl⟩
  have ref : ∀ v : Int, ((∃ f, v = f ∧ a ≤ f ∧ f ≤ b ∧ ¬ cut (D l) (cmv m F X f 0) (cmv m F Y f 0) (cmv m F Z f 64) ∧ ∀ q, a ≤ q → q < f → cut (D l) (cmv m F X q 0) (cmv m F Y q 0) (cmv m F Z q 64)) ∨ (v = -1 ∧ ∀ q, a ≤ q → q ≤ b → cut (D l) (cmv m F X q 0) (cmv m F Y q 0) (cmv m F Z q 64))) → Sp E 311 [.ref 704, .int (J l), .int (J a), .int (J b)] h hr n (fun q => q.1 = some (.int (J v)) ∧ Po (fun _ => True) 0 0 h hr n q.2.1 q.2.2.1 q.2.2.2) := fun v hv => by
    simp +decide (maxSteps := 4000000) (disch := omega) only [k311_0, k311_1, k311_2, k311_4, k311_5, k311_6, k311_r, k311_s, F_il1, J_ifeq, F_il2, F_il3, J_ifne, T_ft, T_I, T_ret, F_is4i, F_is4r, F_is4m, F_il4, T_icgt, F_al0, F_inc4i, F_inc4r, F_inc4m, T_goto, c237, c264, c287, c310, c312, c313, ↓s237, ↓s264, ↓s287, ↓s312, ↓s313, FM H, g1, g2, g3, ↓reduceIte, TK, lt_run hn, le43, Int.le_refl, Int.lt_irrefl, Option.some.injEq, exists_eq_left', true_and, and_true, if_true, if_false, decide_eq_false_iff_not, decide_eq_true_eq, Nat.reduceAdd, Nat.reduceLeDiff, Nat.reduceLT, Int.reduceAdd, Int.reduceSub, Int.reduceMul, Int.reduceNeg, not_true_eq_false, not_false_eq_true]
    refine T_wh (σ := Int) (fun f => [.ref 704, .int (J l), .int (J a), .int (J b), .int (J f)]) (fun f h' => Ef (fun a k => a = 704 ∧ (k = 79 ∨ k = 80 ∨ k = 81)) h h' ∧ a ≤ f ∧ ∀ q, a ≤ q → q < f → q ≤ b ∧ cut (D l) (cmv m F X q 0) (cmv m F Y q 0) (cmv m F Z q 64)) (fun f _ => (200 - f).toNat) ?_ a h ⟨Ef.refl, by omega, fun q _ _ => by omega⟩
    rintro f h1 ⟨e1, f0, f1⟩ ih
    have fb : f ≤ 120 := by
      rcases (show f = a ∨ a < f by omega) with q | q
      · omega
      · have := (f1 (f - 1) (by omega) (by omega)).1
        omega
    by_cases g : b < f
    · have e : v = -1 := by
        rcases hv with ⟨t, t1, t2, t3, t4, t5⟩ | ⟨t1, _⟩
        · exact absurd (f1 t t2 (by omega)).2 t4
        · exact t1
      rw [e]
      rw [k311_3]
      simp +decide (maxSteps := 4000000) (disch := omega) only [k311_0, k311_1, k311_2, k311_4, k311_5, k311_6, k311_r, k311_s, F_il1, J_ifeq, F_il2, F_il3, J_ifne, T_ft, T_I, T_ret, F_is4i, F_is4r, F_is4m, F_il4, T_icgt, F_al0, F_inc4i, F_inc4r, F_inc4m, T_goto, c237, c264, c287, c310, c312, c313, ↓s237, ↓s264, ↓s287, ↓s312, ↓s313, g, ↓reduceIte, TK, lt_run hn, le43, Int.le_refl, Int.lt_irrefl, Option.some.injEq, exists_eq_left', true_and, and_true, if_true, if_false, decide_eq_false_iff_not, decide_eq_true_eq, Nat.reduceAdd, Nat.reduceLeDiff, Nat.reduceLT, Int.reduceAdd, Int.reduceSub, Int.reduceMul, Int.reduceNeg, not_true_eq_false, not_false_eq_true]
      exact fin h1 e1
    have cr := cmv_r C f
    have C1 := C.ef e1 (fun a k q q' => by rcases q' with ⟨rfl, rfl | rfl | rfl⟩ <;> cases q)
    rw [k311_3]
    simp +decide (maxSteps := 4000000) (disch := omega) only [k311_0, k311_1, k311_2, k311_4, k311_5, k311_6, k311_r, k311_s, F_il1, J_ifeq, F_il2, F_il3, J_ifne, T_ft, T_I, T_ret, F_is4i, F_is4r, F_is4m, F_il4, T_icgt, F_al0, F_inc4i, F_inc4r, F_inc4m, T_goto, c237, c264, c287, c310, c312, c313, ↓s237, ↓s264, ↓s287, ↓s312, ↓s313, FM H, g, ↓reduceIte, TK, lt_run hn, le43, Int.le_refl, Int.lt_irrefl, Option.some.injEq, exists_eq_left', true_and, and_true, if_true, if_false, decide_eq_false_iff_not, decide_eq_true_eq, Nat.reduceAdd, Nat.reduceLeDiff, Nat.reduceLT, Int.reduceAdd, Int.reduceSub, Int.reduceMul, Int.reduceNeg, not_true_eq_false, not_false_eq_true]
    refine w310 H hn C1 (by omega) (fun h2 q1 e2 => ?_)
    have d3 : gA h2 760 l = J (D l) := by
      rw [e2.g (by omega), e1.g (by omega)]
      exact dl.2
    obtain ⟨q11, q12, q13⟩ := q1
    have T1 := fun (x : Int) (hx : 0 ≤ x ∧ x ≤ 47) Q => s312 (E := E) (x := x) (Q := Q) (n := n) H hn d3 q11 q13 dr cr.1 cr.2.2 (by omega) hx
    have T2 := fun (x : Int) (hx : 0 ≤ x ∧ x ≤ 47) Q => s313 (E := E) (x := x) (Q := Q) (n := n) H hn d3 q12 q13 dr cr.2.1 cr.2.2 (by omega) hx
    have A1 := T1 0 (by omega)
    have A2 := T2 0 (by omega)
    have A3 := T1 47 (by omega)
    have A4 := T2 31 (by omega)
    have p1 := (plc_r (mid := 24) (x := 0) (by omega) dr cr.1 cr.2.2 (by omega)).2.2
    have p2 := (plc_r (mid := 16) (x := 0) (by omega) dr cr.2.1 cr.2.2 (by omega)).2.2
    have p3 := (plc_r (mid := 24) (x := 47) (by omega) dr cr.1 cr.2.2 (by omega)).2.2
    have p4 := (plc_r (mid := 16) (x := 31) (by omega) dr cr.2.1 cr.2.2 (by omega)).2.2
    have stop : ¬ cut (D l) (cmv m F X f 0) (cmv m F Y f 0) (cmv m F Z f 64) → v = f := fun nc => by
      rcases hv with ⟨t, t1, t2, t3, t4, t5⟩ | ⟨_, t1⟩
      · rcases Int.lt_trichotomy t f with z | z | z
        · exact absurd (f1 t t2 z).2 t4
        · rw [t1, z]
        · exact absurd (t5 f f0 z) nc
      · exact absurd (t1 f f0 (by omega)) nc
    by_cases b1 : (0 ≤ plc 24 (D l) (cmv m F X f 0) (cmv m F Z f 64) 0 ∧ plc 24 (D l) (cmv m F X f 0) (cmv m F Z f 64) 0 ≤ 47) ∧ 0 ≤ plc 16 (D l) (cmv m F Y f 0) (cmv m F Z f 64) 0 ∧ plc 16 (D l) (cmv m F Y f 0) (cmv m F Z f 64) 0 ≤ 31
    case neg =>
      rw [stop (fun z => b1 z.1)]
      simp +decide (maxSteps := 4000000) (disch := omega) only [k311_0, k311_1, k311_2, k311_4, k311_5, k311_6, k311_r, k311_s, F_il1, J_ifeq, F_il2, F_il3, J_ifne, T_ft, T_I, T_ret, F_is4i, F_is4r, F_is4m, F_il4, T_icgt, F_al0, F_inc4i, F_inc4r, F_inc4m, T_goto, c237, c264, c287, c310, c312, c313, ↓s237, ↓s264, ↓s287, FM H, A1, A2, A3, A4, b1, ↓reduceIte, TK, lt_run hn, le43, Int.le_refl, Int.lt_irrefl, Option.some.injEq, exists_eq_left', true_and, and_true, if_true, if_false, decide_eq_false_iff_not, decide_eq_true_eq, Nat.reduceAdd, Nat.reduceLeDiff, Nat.reduceLT, Int.reduceAdd, Int.reduceSub, Int.reduceMul, Int.reduceNeg, not_true_eq_false, not_false_eq_true]
      exact fin h2 (e1.trans e2)
    by_cases b2 : (0 ≤ plc 24 (D l) (cmv m F X f 0) (cmv m F Z f 64) 47 ∧ plc 24 (D l) (cmv m F X f 0) (cmv m F Z f 64) 47 ≤ 47) ∧ 0 ≤ plc 16 (D l) (cmv m F Y f 0) (cmv m F Z f 64) 31 ∧ plc 16 (D l) (cmv m F Y f 0) (cmv m F Z f 64) 31 ≤ 31
    case neg =>
      rw [stop (fun z => b2 z.2)]
      simp +decide (maxSteps := 4000000) (disch := omega) only [k311_0, k311_1, k311_2, k311_4, k311_5, k311_6, k311_r, k311_s, F_il1, J_ifeq, F_il2, F_il3, J_ifne, T_ft, T_I, T_ret, F_is4i, F_is4r, F_is4m, F_il4, T_icgt, F_al0, F_inc4i, F_inc4r, F_inc4m, T_goto, c237, c264, c287, c310, c312, c313, ↓s237, ↓s264, ↓s287, FM H, A1, A2, A3, A4, b1, b2, ↓reduceIte, TK, lt_run hn, le43, Int.le_refl, Int.lt_irrefl, Option.some.injEq, exists_eq_left', true_and, and_true, if_true, if_false, decide_eq_false_iff_not, decide_eq_true_eq, Nat.reduceAdd, Nat.reduceLeDiff, Nat.reduceLT, Int.reduceAdd, Int.reduceSub, Int.reduceMul, Int.reduceNeg, not_true_eq_false, not_false_eq_true]
      exact fin h2 (e1.trans e2)
    simp +decide (maxSteps := 4000000) (disch := omega) only [k311_0, k311_1, k311_2, k311_4, k311_5, k311_6, k311_r, k311_s, F_il1, J_ifeq, F_il2, F_il3, J_ifne, T_ft, T_I, T_ret, F_is4i, F_is4r, F_is4m, F_il4, T_icgt, F_al0, F_inc4i, F_inc4r, F_inc4m, T_goto, c237, c264, c287, c310, c312, c313, ↓s237, ↓s264, ↓s287, FM H, A1, A2, A3, A4, b1, b2, ↓reduceIte, TK, lt_run hn, le43, Int.le_refl, Int.lt_irrefl, Option.some.injEq, exists_eq_left', true_and, and_true, if_true, if_false, decide_eq_false_iff_not, decide_eq_true_eq, Nat.reduceAdd, Nat.reduceLeDiff, Nat.reduceLT, Int.reduceAdd, Int.reduceSub, Int.reduceMul, Int.reduceNeg, not_true_eq_false, not_false_eq_true]
    refine ih (f + 1) h2 ⟨e1.trans e2, by omega, fun q q0 q1 => ?_⟩ (by omega)
    rcases (show q < f ∨ q = f by omega) with z | z
    · exact f1 q q0 z
    · rw [z]
      exact ⟨by omega, b1, b2⟩
  simp +decide (maxSteps := 4000000) (disch := omega) only [k190_0, k190_1, k190_2, k190_4, k190_5, k190_6, k190_r, k190_s, F_il1, J_ifeq, F_il2, F_il3, J_ifne, T_ft, T_I, T_ret, F_is4i, F_is4r, F_is4m, F_il4, T_icgt, F_al0, F_is5i, F_is5r, F_is5m, F_is6i, F_is6r, F_is6m, F_il5, F_il6, F_inc4i, F_inc4r, F_inc4m, T_goto, c145, c158, c173, c191, ↓s145, ↓s158, ↓s173, ↓s191, FX H, g1, g2, g3, ↓reduceIte, TK, lt_run hn, le43, Int.le_refl, Int.lt_irrefl, Option.some.injEq, exists_eq_left', true_and, and_true, if_true, if_false, decide_eq_false_iff_not, decide_eq_true_eq, Nat.reduceAdd, Nat.reduceLeDiff, Nat.reduceLT, Int.reduceAdd, Int.reduceSub, Int.reduceMul, Int.reduceNeg, not_true_eq_false, not_false_eq_true]
  refine T_wh (σ := Int × Value × Value) (fun f => [.ref 43, .int (J l), .int (J a), .int (J b), .int (J f.1), f.2.1, f.2.2]) (fun f h' => h' = h ∧ a ≤ f.1 ∧ ∀ q, a ≤ q → q < f.1 → q ≤ b ∧ cut (D l) (cmv m F X q 0) (cmv m F Y q 0) (cmv m F Z q 64)) (fun f _ => (200 - f.1).toNat) ?_ (a, a_mk, a_mk) h ⟨rfl, by dsimp only; omega, fun q _ _ => by dsimp only at *; omega⟩
  rintro ⟨f, v5, v6⟩ h1 ⟨rfl, f0, f1⟩ ih
  dsimp only at f0 f1 ⊢
  have fb : f ≤ 120 := by
    rcases (show f = a ∨ a < f by omega) with q | q
    · omega
    · have := (f1 (f - 1) (by omega) (by omega)).1
      omega
  by_cases g : b < f
  · rw [k190_3]
    simp +decide (maxSteps := 4000000) (disch := omega) only [k190_0, k190_1, k190_2, k190_4, k190_5, k190_6, k190_r, k190_s, F_il1, J_ifeq, F_il2, F_il3, J_ifne, T_ft, T_I, T_ret, F_is4i, F_is4r, F_is4m, F_il4, T_icgt, F_al0, F_is5i, F_is5r, F_is5m, F_is6i, F_is6r, F_is6m, F_il5, F_il6, F_inc4i, F_inc4r, F_inc4m, T_goto, c145, c158, c173, c191, ↓s145, ↓s158, ↓s173, ↓s191, g, ↓reduceIte, TK, lt_run hn, le43, Int.le_refl, Int.lt_irrefl, Option.some.injEq, exists_eq_left', true_and, and_true, if_true, if_false, decide_eq_false_iff_not, decide_eq_true_eq, Nat.reduceAdd, Nat.reduceLeDiff, Nat.reduceLT, Int.reduceAdd, Int.reduceSub, Int.reduceMul, Int.reduceNeg, not_true_eq_false, not_false_eq_true]
    exact ⟨_, rfl, ref _ (Or.inr ⟨rfl, fun q q0 q1 => (f1 q q0 (by omega)).2⟩)⟩
  have cr := cmv_r C f
  have T := fun (p a : Int) (hp : 0 ≤ p ∧ p ≤ 47) (ha : a = 0 ∨ a = 1) Q => s191 (E := E) (Q := Q) H hn C (fun l h1 h2 => (hd l h1 h2).1) hD hp ha (l := l) (f := f) (by omega) (by omega)
  have A1 := T 0 0 (by omega) (Or.inl rfl)
  have A2 := T 0 1 (by omega) (Or.inr rfl)
  have A3 := T 47 0 (by omega) (Or.inl rfl)
  have A4 := T 31 1 (by omega) (Or.inr rfl)
  simp only [show ¬ (1 : Int) = 0 by decide, if_true, if_false] at A1 A2 A3 A4
  have p1 := (plc_r (mid := 24) (x := 0) (by omega) dr cr.1 cr.2.2 (by omega)).2.2
  have p2 := (plc_r (mid := 16) (x := 0) (by omega) dr cr.2.1 cr.2.2 (by omega)).2.2
  have p3 := (plc_r (mid := 24) (x := 47) (by omega) dr cr.1 cr.2.2 (by omega)).2.2
  have p4 := (plc_r (mid := 16) (x := 31) (by omega) dr cr.2.1 cr.2.2 (by omega)).2.2
  have out : ¬ cut (D l) (cmv m F X f 0) (cmv m F Y f 0) (cmv m F Z f 64) → Sp E 311 [.ref 704, .int (J l), .int (J a), .int (J b)] h1 hr n (fun q => q.1 = some (.int (J f)) ∧ Po (fun _ => True) 0 0 h1 hr n q.2.1 q.2.2.1 q.2.2.2) := fun nc => ref _ (Or.inl ⟨f, rfl, f0, by omega, nc, fun q q0 q1 => (f1 q q0 q1).2⟩)
  by_cases b1 : (0 ≤ plc 24 (D l) (cmv m F X f 0) (cmv m F Z f 64) 0 ∧ plc 24 (D l) (cmv m F X f 0) (cmv m F Z f 64) 0 ≤ 47) ∧ 0 ≤ plc 16 (D l) (cmv m F Y f 0) (cmv m F Z f 64) 0 ∧ plc 16 (D l) (cmv m F Y f 0) (cmv m F Z f 64) 0 ≤ 31
  case neg =>
    rw [k190_3]
    simp +decide (maxSteps := 4000000) (disch := omega) only [k190_0, k190_1, k190_2, k190_4, k190_5, k190_6, k190_r, k190_s, F_il1, J_ifeq, F_il2, F_il3, J_ifne, T_ft, T_I, T_ret, F_is4i, F_is4r, F_is4m, F_il4, T_icgt, F_al0, F_is5i, F_is5r, F_is5m, F_is6i, F_is6r, F_is6m, F_il5, F_il6, F_inc4i, F_inc4r, F_inc4m, T_goto, c145, c158, c173, c191, ↓s145, ↓s158, ↓s173, FX H, A1, A2, A3, A4, b1, g, ↓reduceIte, TK, lt_run hn, le43, Int.le_refl, Int.lt_irrefl, Option.some.injEq, exists_eq_left', true_and, and_true, if_true, if_false, decide_eq_false_iff_not, decide_eq_true_eq, Nat.reduceAdd, Nat.reduceLeDiff, Nat.reduceLT, Int.reduceAdd, Int.reduceSub, Int.reduceMul, Int.reduceNeg, not_true_eq_false, not_false_eq_true]
    exact ⟨_, rfl, out (fun z => b1 z.1)⟩
  by_cases b2 : (0 ≤ plc 24 (D l) (cmv m F X f 0) (cmv m F Z f 64) 47 ∧ plc 24 (D l) (cmv m F X f 0) (cmv m F Z f 64) 47 ≤ 47) ∧ 0 ≤ plc 16 (D l) (cmv m F Y f 0) (cmv m F Z f 64) 31 ∧ plc 16 (D l) (cmv m F Y f 0) (cmv m F Z f 64) 31 ≤ 31
  case neg =>
    rw [k190_3]
    simp +decide (maxSteps := 4000000) (disch := omega) only [k190_0, k190_1, k190_2, k190_4, k190_5, k190_6, k190_r, k190_s, F_il1, J_ifeq, F_il2, F_il3, J_ifne, T_ft, T_I, T_ret, F_is4i, F_is4r, F_is4m, F_il4, T_icgt, F_al0, F_is5i, F_is5r, F_is5m, F_is6i, F_is6r, F_is6m, F_il5, F_il6, F_inc4i, F_inc4r, F_inc4m, T_goto, c145, c158, c173, c191, ↓s145, ↓s158, ↓s173, FX H, A1, A2, A3, A4, b1, b2, g, ↓reduceIte, TK, lt_run hn, le43, Int.le_refl, Int.lt_irrefl, Option.some.injEq, exists_eq_left', true_and, and_true, if_true, if_false, decide_eq_false_iff_not, decide_eq_true_eq, Nat.reduceAdd, Nat.reduceLeDiff, Nat.reduceLT, Int.reduceAdd, Int.reduceSub, Int.reduceMul, Int.reduceNeg, not_true_eq_false, not_false_eq_true]
    exact ⟨_, rfl, out (fun z => b2 z.2)⟩
  rw [k190_3]
  simp +decide (maxSteps := 4000000) (disch := omega) only [k190_0, k190_1, k190_2, k190_4, k190_5, k190_6, k190_r, k190_s, F_il1, J_ifeq, F_il2, F_il3, J_ifne, T_ft, T_I, T_ret, F_is4i, F_is4r, F_is4m, F_il4, T_icgt, F_al0, F_is5i, F_is5r, F_is5m, F_is6i, F_is6r, F_is6m, F_il5, F_il6, F_inc4i, F_inc4r, F_inc4m, T_goto, c145, c158, c173, c191, ↓s145, ↓s158, ↓s173, FX H, A1, A2, A3, A4, b1, b2, g, ↓reduceIte, TK, lt_run hn, le43, Int.le_refl, Int.lt_irrefl, Option.some.injEq, exists_eq_left', true_and, and_true, if_true, if_false, decide_eq_false_iff_not, decide_eq_true_eq, Nat.reduceAdd, Nat.reduceLeDiff, Nat.reduceLT, Int.reduceAdd, Int.reduceSub, Int.reduceMul, Int.reduceNeg, not_true_eq_false, not_false_eq_true]
  refine ih (f + 1, _, _) h1 ⟨rfl, by dsimp only; omega, fun q q0 q1 => ?_⟩ (by dsimp only; omega)
  dsimp only at q1
  rcases (show q < f ∨ q = f by omega) with z | z
  · exact f1 q q0 z
  · rw [z]
    exact ⟨by omega, b1, b2⟩
end CA
