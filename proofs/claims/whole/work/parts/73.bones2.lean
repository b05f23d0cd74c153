/-! BONES: sums along a chain; directions, ends -/
def chs (b : Int → Bn) (g : Int → Int) : Nat → Int → Int
  | 0, _ => 0
  | q + 1, i => if i < 0 then 0 else g i + chs b g q (b i).1
def cS (b : Int → Bn) (g : Int → Int) (i : Int) : Int := chs b g (i + 1).toNat i
def an (b : Int → Bn) (f i : Int) : Int := kval (bK b i) f (bLo b i)
def dr (b : Int → Bn) (f i : Int) : Int := cS b (an b f) i
/-- an end, from the pivot: c is 8 for x, 0 for y -/
def eE (b : Int → Bn) (A : Int → Int) (c i : Int) : Int := cS b (fun k => bL b k (cS b A k + c)) i
section CH
variable {E : AEn} {h h' : AHi} {hr : AHr} {n : Nat} {Q : ARs → Prop} {N : Int} {b : Int → Bn} {g : Int → Int} {f : Int}
theorem chs_m (R : ∀ i, 0 ≤ i → i < N → BnR i (b i)) : ∀ (q q' : Nat) (i : Int), q' ≤ q → -1 ≤ i → i < N → (i + 1).toNat ≤ q' → chs b g q' i = chs b g (i + 1).toNat i := by
  intro q
  induction q with
  | zero =>
    intro q' i h1 h2 h3 h4
    rw [show q' = 0 by omega, show (i + 1).toNat = 0 by omega]
  | succ q ih =>
    intro q' i h1 h2 h3 h4
    rcases (show i = -1 ∨ 0 ≤ i by omega) with rfl | h5
    · cases q' with
      | zero => rfl
      | succ q' => rfl
    · obtain ⟨q'', rfl⟩ : ∃ q'', q' = q'' + 1 := ⟨q' - 1, by omega⟩
      have r := (R i h5 h3).1.1
      rw [show (i + 1).toNat = i.toNat + 1 by omega]
      unfold chs
      rw [if_neg (by omega), if_neg (by omega), ih q'' (b i).1 (by omega) r.1 (by omega) (by omega), ih i.toNat (b i).1 (by omega) r.1 (by omega) (by omega)]
theorem cS_n : cS b g (-1) = 0 := rfl
theorem cS_s (R : ∀ i, 0 ≤ i → i < N → BnR i (b i)) {i : Int} (i0 : 0 ≤ i) (i1 : i < N) : cS b g i = g i + cS b g (b i).1 := by
  have r := (R i i0 i1).1.1
  unfold cS
  rw [show (i + 1).toNat = i.toNat + 1 by omega]
  conv => lhs; unfold chs
  rw [if_neg (by omega), chs_m R i.toNat i.toNat (b i).1 (Nat.le_refl _) r.1 (by omega) (by omega)]
theorem cS_r (R : ∀ i, 0 ≤ i → i < N → BnR i (b i)) {lo hi : Int} (hl : lo ≤ 0) (hh : 0 ≤ hi) (hg : ∀ i, 0 ≤ i → i < N → lo ≤ g i ∧ g i ≤ hi) : ∀ (q : Nat) (i : Int), -1 ≤ i → i < N → i < q → (q : Int) * lo ≤ cS b g i ∧ cS b g i ≤ (q : Int) * hi := by
  intro q
  induction q with
  | zero =>
    intro i h1 h2 h3
    rw [show i = -1 by omega, cS_n]
    omega
  | succ q ih =>
    intro i h1 h2 h3
    have e1 : ((q + 1 : Nat) : Int) * lo = q * lo + lo := by rw [Int.natCast_add, Int.add_mul]; simp
    have e2 : ((q + 1 : Nat) : Int) * hi = q * hi + hi := by rw [Int.natCast_add, Int.add_mul]; simp
    rw [e1, e2]
    rcases (show i = -1 ∨ 0 ≤ i by omega) with rfl | h5
    · rw [cS_n]
      have z1 : (q : Int) * lo ≤ 0 := Int.mul_nonpos_of_nonneg_of_nonpos (by omega) hl
      have z2 : 0 ≤ (q : Int) * hi := Int.mul_nonneg (by omega) hh
      omega
    · have r := (R i h5 h2).1.1
      rw [cS_s R h5 h2]
      have := ih (b i).1 r.1 (by omega) (by omega)
      have := hg i h5 h2
      omega
theorem an_n (f : Int) : an b f (-1) = 0 := rfl
theorem an_r (R : ∀ i, 0 ≤ i → i < N → BnR i (b i)) (f : Int) {i : Int} (i0 : -1 ≤ i) (i1 : i < N) : 0 ≤ an b f i ∧ an b f i ≤ 31 := by
  rcases (show i = -1 ∨ 0 ≤ i by omega) with rfl | h5
  · rw [an_n]
    omega
  · obtain ⟨r1, r2, r3, r4, r5⟩ := R i h5 i1
    unfold an bK bLo
    rw [if_neg (by omega), if_neg (by omega)]
    have := kval_r r4 f (o := (b i).2.2.1) (by omega)
    omega
theorem dr_r (R : ∀ i, 0 ≤ i → i < N → BnR i (b i)) (hN : N ≤ 10) {A : Int → Int} (hA : ∀ i, 0 ≤ i → i < N → 0 ≤ A i ∧ A i ≤ 31) {i : Int} (i0 : -1 ≤ i) (i1 : i < N) : 0 ≤ cS b A i ∧ cS b A i ≤ 310 := by
  have := cS_r R (lo := 0) (hi := 31) (by omega) (by omega) hA 10 i i0 i1 (by omega)
  omega
theorem bL_r (R : ∀ i, 0 ≤ i → i < N → BnR i (b i)) {i : Int} (i1 : i < N) (i0 : -1 ≤ i) (d : Int) : -41 ≤ bL b i d ∧ bL b i d ≤ 41 := by
  unfold bL
  split
  · omega
  · exact lng_r (R i (by omega) i1).2.1 d
theorem eE_r (R : ∀ i, 0 ≤ i → i < N → BnR i (b i)) (hN : N ≤ 10) (A : Int → Int) (c : Int) {i : Int} (i0 : -1 ≤ i) (i1 : i < N) : -410 ≤ eE b A c i ∧ eE b A c i ≤ 410 := by
  have := cS_r R (g := fun k => bL b k (cS b A k + c)) (lo := -41) (hi := 41) (by omega) (by omega) (fun j j0 j1 => bL_r R j1 (by omega) _) 10 i i0 i1 (by omega)
  unfold eE
  omega
theorem bL_m (i : Int) {d e : Int} (h : d % 32 = e % 32) : bL b i d = bL b i e := by
  unfold bL lng
  rw [sn_m d e h]
theorem aref_n : a_ref none = .null := rfl
theorem bid_le (p : Int) : 43 ≤ bid p := by
  unfold bid
  split <;> omega
theorem bid_lt {p : Int} (h0 : -1 ≤ p) (h1 : p < 10) : bid p + 5 < 695 := by
  unfold bid
  split <;> omega
theorem bP_n : bP b (-1) = none := rfl
theorem bP_s {i : Int} (h : 0 ≤ i) : bP b i = some (bid (b i).1) := if_neg (by omega)
theorem w4 (F : FH hr) (hn : 775 ≤ n) (C : Bw N b h hr) {i : Int} (i0 : -1 ≤ i) (i1 : i < N) (hf : 0 ≤ f ∧ f ≤ 119) (k : Q (some (.int (J (dr b f i % 32))), h, hr, n)) : Sp E 4 [.ref (bid i), .int (J f)] h hr n Q := by
  have R := C.2.1
  have hN := C.1
  simp +decide (maxSteps := 4000000) (disch := omega) only [k4_0, k4_2, k4_3, k4_r, k4_s, T_I, F_is2i, F_is2r, F_is2m, F_al0, F_an0, F_as3i, F_as3r, F_as3m, F_is4i, F_is4r, F_is4m, T_ft, F_il4, T_icgt, F_il2, F_al3, F_an3, F_il1, T_add, T_getR, T_nnR, T_nnN, T_goto, F_inc4i, F_inc4r, F_inc4m, T_and, T_ret, c2, ↓s2, ↓reduceIte, TK, lt_run hn, le43, Int.le_refl, Int.lt_irrefl, Option.some.injEq, exists_eq_left', true_and, and_true, if_true, if_false, decide_eq_false_iff_not, decide_eq_true_eq, Nat.reduceAdd, Nat.reduceLeDiff, Nat.reduceLT, Int.reduceAdd, Int.reduceSub, Int.reduceMul, Int.reduceNeg, not_true_eq_false, not_false_eq_true]
  refine T_for (σ := Int × Int) (fun j s => [.ref (bid i), .int (J f), .int (J s.2), .ref (bid s.1), .int (J j)]) (fun j s h' => h' = h ∧ (-1 ≤ s.1 ∧ s.1 + j ≤ i) ∧ s.2 + dr b f s.1 = dr b f i) 0 11 ?_ ?_ 0 (i, 0) h (by omega) (by omega) ⟨rfl, ⟨i0, by dsimp only; omega⟩, by dsimp only; omega⟩
  · rintro j ⟨c, s⟩ h' j0 j1 ⟨rfl, ⟨y0, y1⟩, y2⟩ ih
    dsimp only at y0 y1 y2 ⊢
    have V := C.v F y0 (show c < N by omega)
    have S := fun Q => s2 (E := E) (Q := Q) F hn V hf
    have x1 := V.1.x E F
    have x2 := V.1.r
    have v1 := V.2.1
    have lt1 : bid c < n := by omega
    have ar := an_r R f y0 (show c < N by omega)
    have dr1 := dr_r R hN.2 (A := an b f) (fun i h1 h2 => an_r R f (by omega) h2) i0 i1
    have dr2 := dr_r R hN.2 (A := an b f) (fun i h1 h2 => an_r R f (by omega) h2) y0 (show c < N by omega)
    change ∀ Q, Sp E 2 [.ref (bid c), .int (J f)] h' hr n Q ↔ Q (some (.int (J (an b f c))), h', hr, n) at S
    rcases (show c = -1 ∨ 0 ≤ c by omega) with rfl | y3
    · rw [bP_n] at v1
      have e1 : s = dr b f i := by
        have : dr b f (-1) = 0 := rfl
        omega
      have e2 : an b f (-1) = 0 := rfl
      rw [e2] at S
      rw [k4_1]
      simp +decide (maxSteps := 4000000) (disch := omega) only [k4_0, k4_2, k4_3, k4_r, k4_s, T_I, F_is2i, F_is2r, F_is2m, F_al0, F_an0, F_as3i, F_as3r, F_as3m, F_is4i, F_is4r, F_is4m, T_ft, F_il4, T_icgt, F_il2, F_al3, F_an3, F_il1, T_add, T_getR, T_nnR, T_nnN, T_goto, F_inc4i, F_inc4r, F_inc4m, T_and, T_ret, c2, S, x1, x2, v1, lt1, aref_n, J_and31, Int.add_zero, show ¬ 10 < j by omega, ↓reduceIte, TK, lt_run hn, le43, Int.le_refl, Int.lt_irrefl, Option.some.injEq, exists_eq_left', true_and, and_true, if_true, if_false, decide_eq_false_iff_not, decide_eq_true_eq, Nat.reduceAdd, Nat.reduceLeDiff, Nat.reduceLT, Int.reduceAdd, Int.reduceSub, Int.reduceMul, Int.reduceNeg, not_true_eq_false, not_false_eq_true]
      rw [e1]
      exact k
    · rw [bP_s y3] at v1
      have r := (R c y3 (by omega)).1.1
      have ds : dr b f c = an b f c + dr b f (b c).1 := cS_s R y3 (by omega)
      have bl := bid_le (b c).1
      rw [k4_1]
      simp +decide (maxSteps := 4000000) (disch := omega) only [k4_0, k4_2, k4_3, k4_r, k4_s, T_I, F_is2i, F_is2r, F_is2m, F_al0, F_an0, F_as3i, F_as3r, F_as3m, F_is4i, F_is4r, F_is4m, T_ft, F_il4, T_icgt, F_il2, F_al3, F_an3, F_il1, T_add, T_getR, T_nnR, T_nnN, T_goto, F_inc4i, F_inc4r, F_inc4m, T_and, T_ret, c2, S, x1, x2, v1, lt1, bl, show ¬ 10 < j by omega, ↓reduceIte, TK, lt_run hn, le43, Int.le_refl, Int.lt_irrefl, Option.some.injEq, exists_eq_left', true_and, and_true, if_true, if_false, decide_eq_false_iff_not, decide_eq_true_eq, Nat.reduceAdd, Nat.reduceLeDiff, Nat.reduceLT, Int.reduceAdd, Int.reduceSub, Int.reduceMul, Int.reduceNeg, not_true_eq_false, not_false_eq_true]
      exact ih ((b c).1, s + an b f c) _ ⟨rfl, ⟨r.1, by dsimp only; omega⟩, by dsimp only; omega⟩
  · rintro ⟨c, s⟩ h' ⟨rfl, ⟨y0, y1⟩, y2⟩
    dsimp only at y0 y1
    omega
theorem w3 (F : FH hr) (hn : 775 ≤ n) (C : Bw N b h hr) {i a : Int} (ha : a = 0 ∨ a = 1) (i0 : -1 ≤ i) (i1 : i < N) (hf : 0 ≤ f ∧ f ≤ 119) (k : Q (some (.int (J (eE b (an b f) (if a = 0 then 8 else 0) i))), h, hr, n)) : Sp E 3 [.ref (bid i), .int (J f), .int (J a)] h hr n Q := by
  have R := C.2.1
  have hN := C.1
  have V0 := C.v F i0 i1
  have z1 := V0.1.x E F
  have z2 := V0.1.r
  have lt0 : bid i < n := by omega
  simp +decide (maxSteps := 4000000) (disch := omega) only [k3_0, k3_2, k3_3, k3_4, k3_5, k3_r, k3_s, F_al0, F_an0, F_il1, F_is3i, F_is3r, F_is3m, T_I, F_is4i, F_is4r, F_is4m, F_as5i, F_as5r, F_as5m, F_is6i, F_is6r, F_is6m, T_ft, F_il6, T_icgt, F_il4, F_il2, J_ifne, F_al5, F_an5, T_getR, F_il3, X_iald, T_goto, T_add, T_sub, T_and, T_nnR, T_nnN, F_inc6i, F_inc6r, F_inc6m, T_ret, c2, c4, ↓s2, z1, lt0, ↓reduceIte, TK, lt_run hn, le43, Int.le_refl, Int.lt_irrefl, Option.some.injEq, exists_eq_left', true_and, and_true, if_true, if_false, decide_eq_false_iff_not, decide_eq_true_eq, Nat.reduceAdd, Nat.reduceLeDiff, Nat.reduceLT, Int.reduceAdd, Int.reduceSub, Int.reduceMul, Int.reduceNeg, not_true_eq_false, not_false_eq_true]
  refine w4 F hn C i0 i1 hf ?_
  simp +decide (maxSteps := 4000000) (disch := omega) only [k3_0, k3_2, k3_3, k3_4, k3_5, k3_r, k3_s, F_al0, F_an0, F_il1, F_is3i, F_is3r, F_is3m, T_I, F_is4i, F_is4r, F_is4m, F_as5i, F_as5r, F_as5m, F_is6i, F_is6r, F_is6m, T_ft, F_il6, T_icgt, F_il4, F_il2, J_ifne, F_al5, F_an5, T_getR, F_il3, X_iald, T_goto, T_add, T_sub, T_and, T_nnR, T_nnN, F_inc6i, F_inc6r, F_inc6m, T_ret, c2, c4, ↓s2, ↓reduceIte, TK, lt_run hn, le43, Int.le_refl, Int.lt_irrefl, Option.some.injEq, exists_eq_left', true_and, and_true, if_true, if_false, decide_eq_false_iff_not, decide_eq_true_eq, Nat.reduceAdd, Nat.reduceLeDiff, Nat.reduceLT, Int.reduceAdd, Int.reduceSub, Int.reduceMul, Int.reduceNeg, not_true_eq_false, not_false_eq_true]
  refine T_for (σ := Int × Int × Int) (fun j s => [.ref (bid i), .int (J f), .int (J a), .int (J s.2.1), .int (J s.2.2), .ref (bid s.1), .int (J j)]) (fun j s h' => h' = h ∧ (-1 ≤ s.1 ∧ s.1 + j ≤ i) ∧ s.2.1 = dr b f s.1 % 32 ∧ s.2.2 + eE b (an b f) (if a = 0 then 8 else 0) s.1 = eE b (an b f) (if a = 0 then 8 else 0) i) 0 11 ?_ ?_ 0 (i, dr b f i % 32, 0) h (by omega) (by omega) ⟨rfl, ⟨i0, by dsimp only; omega⟩, rfl, by dsimp only; omega⟩
  · rintro j ⟨c, d, s⟩ h' j0 j1 ⟨rfl, ⟨y0, y1⟩, y2, y3⟩ ih
    dsimp only at y0 y1 y2 y3 ⊢
    have V := C.v F y0 (show c < N by omega)
    have S := fun Q => s2 (E := E) (Q := Q) F hn V hf
    have x1 := V.1.x E F
    have x2 := V.1.r
    have v1 := V.2.1
    have v2 := V.2.2.2.2.2.2 d (by omega) (by omega)
    have lt1 : bid c < n := by omega
    have ar := an_r R f y0 (show c < N by omega)
    change ∀ Q, Sp E 2 [.ref (bid c), .int (J f)] h' hr n Q ↔ Q (some (.int (J (an b f c))), h', hr, n) at S
    obtain ⟨w, hw1, hw2⟩ : ∃ w, w = bL b c (cS b (an b f) c + if a = 0 then 8 else 0) ∧ (-41 ≤ w ∧ w ≤ 41) := ⟨_, rfl, bL_r R (by omega) y0 _⟩
    have q1 : a = 0 → gA h' (bid c + 4) d = J w := fun z => by
      rw [v2.1.1, hw1, if_pos z]
      exact congrArg J (bL_m c (by rw [y2]; unfold dr; omega))
    have q2 : a = 1 → gA h' (bid c + 5) d = J w := fun z => by
      rw [v2.1.2, hw1, if_neg (by omega)]
      exact congrArg J (bL_m c (by rw [y2]; unfold dr; omega))
    rcases (show c = -1 ∨ 0 ≤ c by omega) with rfl | y4
    · rw [bP_n] at v1
      have e2 : an b f (-1) = 0 := rfl
      have e3 : w = 0 := hw1
      have e4 : eE b (an b f) (if a = 0 then 8 else 0) (-1) = 0 := rfl
      rw [e2] at S
      rw [e3] at q1 q2
      rw [e4] at y3
      rcases ha with rfl | rfl
      · rw [k3_1]
        simp +decide (maxSteps := 4000000) (disch := omega) only [k3_0, k3_2, k3_3, k3_4, k3_5, k3_r, k3_s, F_al0, F_an0, F_il1, F_is3i, F_is3r, F_is3m, T_I, F_is4i, F_is4r, F_is4m, F_as5i, F_as5r, F_as5m, F_is6i, F_is6r, F_is6m, T_ft, F_il6, T_icgt, F_il4, F_il2, J_ifne, F_al5, F_an5, T_getR, F_il3, X_iald, T_goto, T_add, T_sub, T_and, T_nnR, T_nnN, F_inc6i, F_inc6r, F_inc6m, T_ret, c2, c4, S, x1, x2, v1, q1 rfl, lt1, aref_n, J_and31, Int.add_zero, show ¬ 10 < j by omega, ↓reduceIte, TK, lt_run hn, le43, Int.le_refl, Int.lt_irrefl, Option.some.injEq, exists_eq_left', true_and, and_true, if_true, if_false, decide_eq_false_iff_not, decide_eq_true_eq, Nat.reduceAdd, Nat.reduceLeDiff, Nat.reduceLT, Int.reduceAdd, Int.reduceSub, Int.reduceMul, Int.reduceNeg, not_true_eq_false, not_false_eq_true]
        rw [show s = eE b (an b f) (if (0 : Int) = 0 then 8 else 0) i by omega]
        exact k
      · rw [k3_1]
        simp +decide (maxSteps := 4000000) (disch := omega) only [k3_0, k3_2, k3_3, k3_4, k3_5, k3_r, k3_s, F_al0, F_an0, F_il1, F_is3i, F_is3r, F_is3m, T_I, F_is4i, F_is4r, F_is4m, F_as5i, F_as5r, F_as5m, F_is6i, F_is6r, F_is6m, T_ft, F_il6, T_icgt, F_il4, F_il2, J_ifne, F_al5, F_an5, T_getR, F_il3, X_iald, T_goto, T_add, T_sub, T_and, T_nnR, T_nnN, F_inc6i, F_inc6r, F_inc6m, T_ret, c2, c4, S, x1, x2, v1, q2 rfl, lt1, aref_n, J_and31, Int.add_zero, show ¬ 10 < j by omega, ↓reduceIte, TK, lt_run hn, le43, Int.le_refl, Int.lt_irrefl, Option.some.injEq, exists_eq_left', true_and, and_true, if_true, if_false, decide_eq_false_iff_not, decide_eq_true_eq, Nat.reduceAdd, Nat.reduceLeDiff, Nat.reduceLT, Int.reduceAdd, Int.reduceSub, Int.reduceMul, Int.reduceNeg, not_true_eq_false, not_false_eq_true]
        rw [show s = eE b (an b f) (if (1 : Int) = 0 then 8 else 0) i by omega]
        exact k
    · rw [bP_s y4] at v1
      have r := (R c y4 (by omega)).1.1
      have ds : dr b f c = an b f c + dr b f (b c).1 := cS_s R y4 (by omega)
      have es : eE b (an b f) (if a = 0 then 8 else 0) c = w + eE b (an b f) (if a = 0 then 8 else 0) (b c).1 := by
        rw [hw1]
        exact cS_s R y4 (by omega)
      have bl := bid_le (b c).1
      rcases ha with rfl | rfl
      · rw [k3_1]
        simp +decide (maxSteps := 4000000) (disch := omega) only [k3_0, k3_2, k3_3, k3_4, k3_5, k3_r, k3_s, F_al0, F_an0, F_il1, F_is3i, F_is3r, F_is3m, T_I, F_is4i, F_is4r, F_is4m, F_as5i, F_as5r, F_as5m, F_is6i, F_is6r, F_is6m, T_ft, F_il6, T_icgt, F_il4, F_il2, J_ifne, F_al5, F_an5, T_getR, F_il3, X_iald, T_goto, T_add, T_sub, T_and, T_nnR, T_nnN, F_inc6i, F_inc6r, F_inc6m, T_ret, c2, c4, S, x1, x2, v1, q1 rfl, lt1, bl, J_and31, show ¬ 10 < j by omega, ↓reduceIte, TK, lt_run hn, le43, Int.le_refl, Int.lt_irrefl, Option.some.injEq, exists_eq_left', true_and, and_true, if_true, if_false, decide_eq_false_iff_not, decide_eq_true_eq, Nat.reduceAdd, Nat.reduceLeDiff, Nat.reduceLT, Int.reduceAdd, Int.reduceSub, Int.reduceMul, Int.reduceNeg, not_true_eq_false, not_false_eq_true]
        exact ih ((b c).1, (d - an b f c) % 32, s + w) _ ⟨rfl, ⟨r.1, by dsimp only; omega⟩, by dsimp only; omega, by dsimp only; omega⟩
      · rw [k3_1]
        simp +decide (maxSteps := 4000000) (disch := omega) only [k3_0, k3_2, k3_3, k3_4, k3_5, k3_r, k3_s, F_al0, F_an0, F_il1, F_is3i, F_is3r, F_is3m, T_I, F_is4i, F_is4r, F_is4m, F_as5i, F_as5r, F_as5m, F_is6i, F_is6r, F_is6m, T_ft, F_il6, T_icgt, F_il4, F_il2, J_ifne, F_al5, F_an5, T_getR, F_il3, X_iald, T_goto, T_add, T_sub, T_and, T_nnR, T_nnN, F_inc6i, F_inc6r, F_inc6m, T_ret, c2, c4, S, x1, x2, v1, q2 rfl, lt1, bl, J_and31, show ¬ 10 < j by omega, ↓reduceIte, TK, lt_run hn, le43, Int.le_refl, Int.lt_irrefl, Option.some.injEq, exists_eq_left', true_and, and_true, if_true, if_false, decide_eq_false_iff_not, decide_eq_true_eq, Nat.reduceAdd, Nat.reduceLeDiff, Nat.reduceLT, Int.reduceAdd, Int.reduceSub, Int.reduceMul, Int.reduceNeg, not_true_eq_false, not_false_eq_true]
        exact ih ((b c).1, (d - an b f c) % 32, s + w) _ ⟨rfl, ⟨r.1, by dsimp only; omega⟩, by dsimp only; omega, by dsimp only; omega⟩
  · rintro ⟨c, d, s⟩ h' ⟨rfl, ⟨y0, y1⟩, y2, y3⟩
    dsimp only at y0 y1
    omega
/-! the reference's -/
theorem w291 (F : FH hr) (hn : 775 ≤ n) {i : Int} (i0 : 0 ≤ i) (i1 : i < 10) (R : BnR i (b i)) (M : BnM h i (b i)) (hf : 0 ≤ f ∧ f ≤ 119) (k : Q (some (.int (J (an b f i))), h, hr, n)) : Sp E 291 [.ref 704, .int (J i), .int (J f)] h hr n Q := by
  obtain ⟨⟨m1, m2, m3, m4, m5⟩, m6⟩ := M
  obtain ⟨r1, r2, r3, r4, r5⟩ := R
  have e0 := r5.1
  have r40 := r4.1
  have l1 : a_ln E 747 = 60 := rfl
  have l2 : a_ln E 748 = 60 := rfl
  have ek : an b f i = kval (b i).2.2.2.2.1 f (b i).2.2.1 := by
    unfold an bK bLo
    rw [if_neg (by omega), if_neg (by omega)]
  rw [ek] at k
  simp +decide (maxSteps := 4000000) (disch := omega) only [k291_0, k291_r, k291_s, F_al0, T_getR, T_I, F_il1, T_mul, X_iald, F_il2, T_ret, c292, FM F, m3, m5, ln_744, ln_746, ↓reduceIte, TK, lt_run hn, le43, Int.le_refl, Int.lt_irrefl, Option.some.injEq, exists_eq_left', true_and, and_true, if_true, if_false, decide_eq_false_iff_not, decide_eq_true_eq, Nat.reduceAdd, Nat.reduceLeDiff, Nat.reduceLT, Int.reduceAdd, Int.reduceSub, Int.reduceMul, Int.reduceNeg, not_true_eq_false, not_false_eq_true]
  refine w292 hn ⟨rfl, by decide, by decide⟩ ⟨rfl, by decide, by decide⟩ (by omega) (by omega) (by omega) r4 (by decide) (by omega) r5 m6 hf ?_
  simp +decide (maxSteps := 4000000) (disch := omega) only [k291_0, k291_r, k291_s, F_al0, T_getR, T_I, F_il1, T_mul, X_iald, F_il2, T_ret, c292, ↓reduceIte, TK, lt_run hn, le43, Int.le_refl, Int.lt_irrefl, Option.some.injEq, exists_eq_left', true_and, and_true, if_true, if_false, decide_eq_false_iff_not, decide_eq_true_eq, Nat.reduceAdd, Nat.reduceLeDiff, Nat.reduceLT, Int.reduceAdd, Int.reduceSub, Int.reduceMul, Int.reduceNeg, not_true_eq_false, not_false_eq_true]
  exact k
theorem w294 (F : FH hr) (hn : 775 ≤ n) (C : Bw N b h hr) (hf : 0 ≤ f ∧ f ≤ 119) (k : ∀ h', (∀ i, 0 ≤ i → i < N → gA h' 749 i = J (an b f i)) → Ef (fun a _ => a = 749) h h' → Q (none, h', hr, n)) : Sp E 294 [.ref 704, .int (J f)] h hr n Q := by
  have R := C.2.1
  have hN := C.1
  simp +decide (maxSteps := 4000000) (disch := omega) only [k294_0, k294_2, k294_r, k294_s, T_I, F_is2i, F_is2r, F_is2m, T_ft, F_il2, F_al0, T_getI, T_icge, T_getR, F_il1, T_iast, F_inc2i, F_inc2r, F_inc2m, T_goto, T_ret, c291, ↓reduceIte, TK, lt_run hn, le43, Int.le_refl, Int.lt_irrefl, Option.some.injEq, exists_eq_left', true_and, and_true, if_true, if_false, decide_eq_false_iff_not, decide_eq_true_eq, Nat.reduceAdd, Nat.reduceLeDiff, Nat.reduceLT, Int.reduceAdd, Int.reduceSub, Int.reduceMul, Int.reduceNeg, not_true_eq_false, not_false_eq_true]
  refine T_for (σ := Unit) (fun j _ => [.ref 704, .int (J f), .int (J j)]) (fun j _ h' => Ef (fun a _ => a = 749) h h' ∧ ∀ i, 0 ≤ i → i < j → gA h' 749 i = J (an b f i)) 0 N ?_ ?_ 0 () h (by omega) (by omega) ⟨Ef.refl, fun i _ _ => by omega⟩
  · rintro j _ h1 j0 j1 ⟨e1, c1⟩ ih
    have d1 : h1 704 50 = J N := by
      rw [e1 704 50 (by decide)]
      exact C.2.2.1.2
    rw [k294_1]
    simp +decide (maxSteps := 4000000) (disch := omega) only [k294_0, k294_2, k294_r, k294_s, T_I, F_is2i, F_is2r, F_is2m, T_ft, F_il2, F_al0, T_getI, T_icge, T_getR, F_il1, T_iast, F_inc2i, F_inc2r, F_inc2m, T_goto, T_ret, c291, FM F, d1, show ¬ N ≤ j by omega, ↓reduceIte, TK, lt_run hn, le43, Int.le_refl, Int.lt_irrefl, Option.some.injEq, exists_eq_left', true_and, and_true, if_true, if_false, decide_eq_false_iff_not, decide_eq_true_eq, Nat.reduceAdd, Nat.reduceLeDiff, Nat.reduceLT, Int.reduceAdd, Int.reduceSub, Int.reduceMul, Int.reduceNeg, not_true_eq_false, not_false_eq_true]
    refine w291 F hn j0 (by omega) (R j j0 j1) ((C.2.2.2.1 j j0 j1).2.ef e1 (fun x k h1 h2 q => by omega)) hf ?_
    simp +decide (maxSteps := 4000000) (disch := omega) only [k294_0, k294_2, k294_r, k294_s, T_I, F_is2i, F_is2r, F_is2m, T_ft, F_il2, F_al0, T_getI, T_icge, T_getR, F_il1, T_iast, F_inc2i, F_inc2r, F_inc2m, T_goto, T_ret, c291, FM F, ln_749, ↓reduceIte, TK, lt_run hn, le43, Int.le_refl, Int.lt_irrefl, Option.some.injEq, exists_eq_left', true_and, and_true, if_true, if_false, decide_eq_false_iff_not, decide_eq_true_eq, Nat.reduceAdd, Nat.reduceLeDiff, Nat.reduceLT, Int.reduceAdd, Int.reduceSub, Int.reduceMul, Int.reduceNeg, not_true_eq_false, not_false_eq_true]
    refine ih () _ ⟨e1.sA rfl, fun i i0 i1 => ?_⟩
    by_cases e : i = j
    · rw [e, gs_s]
    · rw [gs_k j0 i0 e]
      exact c1 i i0 (by omega)
  · rintro _ h1 ⟨e1, c1⟩
    have d1 : h1 704 50 = J N := by
      rw [e1 704 50 (by decide)]
      exact C.2.2.1.2
    rw [k294_1]
    simp +decide (maxSteps := 4000000) (disch := omega) only [k294_0, k294_2, k294_r, k294_s, T_I, F_is2i, F_is2r, F_is2m, T_ft, F_il2, F_al0, T_getI, T_icge, T_getR, F_il1, T_iast, F_inc2i, F_inc2r, F_inc2m, T_goto, T_ret, c291, FM F, d1, ↓reduceIte, TK, lt_run hn, le43, Int.le_refl, Int.lt_irrefl, Option.some.injEq, exists_eq_left', true_and, and_true, if_true, if_false, decide_eq_false_iff_not, decide_eq_true_eq, Nat.reduceAdd, Nat.reduceLeDiff, Nat.reduceLT, Int.reduceAdd, Int.reduceSub, Int.reduceMul, Int.reduceNeg, not_true_eq_false, not_false_eq_true]
    exact k h1 c1 e1
theorem z295 (F : FH hr) (hn : 775 ≤ n) (C : Bw N b h hr) {A : Int → Int} (hA : ∀ i, 0 ≤ i → i < N → gA h 749 i = J (A i) ∧ 0 ≤ A i ∧ A i ≤ 31) {i x y c : Int} (c0 : 0 ≤ c) (c1 : c < N)
    (k : Tm E 295 (a_bl 295 3) [.ref 704, .int (J i), .int (J x), .int (J y), .int (J c), .int (J (cS b A c)), .int (J (-1))] [] h hr n Q) :
    Tm E 295 (a_bl 295 2) [.ref 704, .int (J i), .int (J x), .int (J y), .int (J c), .int (J 0), .int (J c)] [] h hr n Q := by
  have R := C.2.1
  have hN := C.1
  refine T_wh (σ := Int × Int) (fun s => [.ref 704, .int (J i), .int (J x), .int (J y), .int (J c), .int (J s.2), .int (J s.1)]) (fun s h' => h' = h ∧ (-1 ≤ s.1 ∧ s.1 < N) ∧ s.2 + cS b A s.1 = cS b A c) (fun s _ => (s.1 + 1).toNat) ?_ (c, 0) h ⟨rfl, ⟨by dsimp only; omega, c1⟩, by dsimp only; omega⟩
  rintro ⟨m, d⟩ h' ⟨rfl, ⟨m0, m1⟩, m2⟩ ih
  dsimp only at m0 m1 m2 ⊢
  rcases (show m = -1 ∨ 0 ≤ m by omega) with rfl | m3
  · rw [cS_n] at m2
    rw [show d = cS b A c by omega]
    rw [k295_2]
    simp +decide (maxSteps := 4000000) (disch := omega) only [k295_0, k295_4, k295_r, k295_s, F_al0, T_getI, F_is2i, F_is2r, F_is2m, F_is3i, F_is3r, F_is3m, F_il1, F_is4i, F_is4r, F_is4m, T_ft, F_il4, J_iflt, T_I, F_is5i, F_is5r, F_is5m, F_is6i, F_is6r, F_is6m, F_il6, F_il5, T_getR, X_iald, T_add, T_goto, F_il2, T_i2l, T_mulL, T_L, F_il3, T_putI, T_putZ, T_ret, c243, c296, ↓s243, ↓s296, FM F, ↓reduceIte, TK, lt_run hn, le43, Int.le_refl, Int.lt_irrefl, Option.some.injEq, exists_eq_left', true_and, and_true, if_true, if_false, decide_eq_false_iff_not, decide_eq_true_eq, Nat.reduceAdd, Nat.reduceLeDiff, Nat.reduceLT, Int.reduceAdd, Int.reduceSub, Int.reduceMul, Int.reduceNeg, not_true_eq_false, not_false_eq_true]
    exact k
  · have a1 := hA m m3 m1
    have p1 := (C.2.2.2.1 m m3 m1).2.1.1
    have r := (R m m3 m1).1.1
    have cs := cS_s (g := A) R m3 m1
    rw [k295_2]
    simp +decide (maxSteps := 4000000) (disch := omega) only [k295_0, k295_3, k295_4, k295_r, k295_s, F_al0, T_getI, F_is2i, F_is2r, F_is2m, F_is3i, F_is3r, F_is3m, F_il1, F_is4i, F_is4r, F_is4m, T_ft, F_il4, J_iflt, T_I, F_is5i, F_is5r, F_is5m, F_is6i, F_is6r, F_is6m, F_il6, F_il5, T_getR, X_iald, T_add, T_goto, F_il2, T_i2l, T_mulL, T_L, F_il3, T_putI, T_putZ, T_ret, c243, c296, ↓s243, ↓s296, FM F, ln_749, ln_742, a1.1, p1, show ¬ m < 0 by omega, ↓reduceIte, TK, lt_run hn, le43, Int.le_refl, Int.lt_irrefl, Option.some.injEq, exists_eq_left', true_and, and_true, if_true, if_false, decide_eq_false_iff_not, decide_eq_true_eq, Nat.reduceAdd, Nat.reduceLeDiff, Nat.reduceLT, Int.reduceAdd, Int.reduceSub, Int.reduceMul, Int.reduceNeg, not_true_eq_false, not_false_eq_true]
    exact ih ((b m).1, d + A m) _ ⟨rfl, ⟨r.1, by dsimp only; omega⟩, by dsimp only; omega⟩ (by dsimp only; omega)
theorem w295 (F : FH hr) (hn : 775 ≤ n) (C : Bw N b h hr) {A : Int → Int} (hA : ∀ i, 0 ≤ i → i < N → gA h 749 i = J (A i) ∧ 0 ≤ A i ∧ A i ≤ 31) {i x y : Int} (hx : -400 ≤ x ∧ x ≤ 400) (hy : -400 ≤ y ∧ y ≤ 400) (px : h 704 51 = J x) (py : h 704 52 = J y) (i0 : 0 ≤ i) (i1 : i < N)
    (k : Q (none, hI (hI h 704 61 (J (x + eE b A 8 i))) 704 62 (J (y + eE b A 0 i)), hr, n)) : Sp E 295 [.ref 704, .int (J i)] h hr n Q := by
  have R := C.2.1
  have hN := C.1
  simp +decide (maxSteps := 4000000) (disch := omega) only [k295_0, k295_3, k295_4, k295_r, k295_s, F_al0, T_getI, F_is2i, F_is2r, F_is2m, F_is3i, F_is3r, F_is3m, F_il1, F_is4i, F_is4r, F_is4m, T_ft, F_il4, J_iflt, T_I, F_is5i, F_is5r, F_is5m, F_is6i, F_is6r, F_is6m, F_il6, F_il5, T_getR, X_iald, T_add, T_goto, F_il2, T_i2l, T_mulL, T_L, F_il3, T_putI, T_putZ, T_ret, c243, c296, ↓s243, ↓s296, FM F, px, py, ↓reduceIte, TK, lt_run hn, le43, Int.le_refl, Int.lt_irrefl, Option.some.injEq, exists_eq_left', true_and, and_true, if_true, if_false, decide_eq_false_iff_not, decide_eq_true_eq, Nat.reduceAdd, Nat.reduceLeDiff, Nat.reduceLT, Int.reduceAdd, Int.reduceSub, Int.reduceMul, Int.reduceNeg, not_true_eq_false, not_false_eq_true]
  refine T_wh (σ := Int × Int × Int × Value × Value) (fun s => [.ref 704, .int (J i), .int (J s.2.1), .int (J s.2.2.1), .int (J s.1), s.2.2.2.1, s.2.2.2.2]) (fun s h' => h' = h ∧ (-1 ≤ s.1 ∧ s.1 < N) ∧ s.2.1 + eE b A 8 s.1 = x + eE b A 8 i ∧ s.2.2.1 + eE b A 0 s.1 = y + eE b A 0 i) (fun s _ => (s.1 + 1).toNat) ?_ (i, x, y, a_mk, a_mk) h ⟨rfl, ⟨by dsimp only; omega, i1⟩, rfl, rfl⟩
  rintro ⟨c, u, v, v5, v6⟩ h' ⟨rfl, ⟨c0, c1⟩, c2, c3⟩ ih
  dsimp only at c0 c1 c2 c3 ⊢
  rcases (show c = -1 ∨ 0 ≤ c by omega) with rfl | c4
  · have e1 : eE b A 8 (-1) = 0 := rfl
    have e2 : eE b A 0 (-1) = 0 := rfl
    rw [show u = x + eE b A 8 i by omega, show v = y + eE b A 0 i by omega]
    rw [k295_1]
    simp +decide (maxSteps := 4000000) (disch := omega) only [k295_0, k295_3, k295_4, k295_r, k295_s, F_al0, T_getI, F_is2i, F_is2r, F_is2m, F_is3i, F_is3r, F_is3m, F_il1, F_is4i, F_is4r, F_is4m, T_ft, F_il4, J_iflt, T_I, F_is5i, F_is5r, F_is5m, F_is6i, F_is6r, F_is6m, F_il6, F_il5, T_getR, X_iald, T_add, T_goto, F_il2, T_i2l, T_mulL, T_L, F_il3, T_putI, T_putZ, T_ret, c243, c296, ↓s243, ↓s296, FM F, kd_704, ↓reduceIte, TK, lt_run hn, le43, Int.le_refl, Int.lt_irrefl, Option.some.injEq, exists_eq_left', true_and, and_true, if_true, if_false, decide_eq_false_iff_not, decide_eq_true_eq, Nat.reduceAdd, Nat.reduceLeDiff, Nat.reduceLT, Int.reduceAdd, Int.reduceSub, Int.reduceMul, Int.reduceNeg, not_true_eq_false, not_false_eq_true]
    exact k
  · have g1 := (C.2.2.2.1 c c4 c1).2.1
    obtain ⟨r1, r2, r3⟩ := R c c4 c1
    have dd := dr_r R hN.2 (fun i h1 h2 => (hA i h1 h2).2) (i := c) (by omega) c1
    have t1 := sn_r (cS b A c + 8)
    have t2 := sn_r (cS b A c)
    have m1 := mulb (a := (b c).2.1) (b := sn (cS b A c + 8)) (A := 40) (B := 1024) (by omega) (by omega)
    have m2 := mulb (a := (b c).2.1) (b := sn (cS b A c)) (A := 40) (B := 1024) (by omega) (by omega)
    have ex : eE b A 8 c = rd ((b c).2.1 * sn (cS b A c + 8)) 1024 + eE b A 8 (b c).1 := by
      have := cS_s (g := fun k => bL b k (cS b A k + 8)) R c4 c1
      have e : bL b c (cS b A c + 8) = rd ((b c).2.1 * sn (cS b A c + 8)) 1024 := if_neg (by omega)
      rw [← e]
      exact this
    have ey : eE b A 0 c = rd ((b c).2.1 * sn (cS b A c)) 1024 + eE b A 0 (b c).1 := by
      have := cS_s (g := fun k => bL b k (cS b A k + 0)) R c4 c1
      have e : bL b c (cS b A c + 0) = rd ((b c).2.1 * sn (cS b A c)) 1024 := by rw [Int.add_zero]; exact if_neg (by omega)
      rw [← e]
      exact this
    rw [k295_1]
    simp +decide (maxSteps := 4000000) (disch := omega) only [k295_0, k295_3, k295_4, k295_r, k295_s, F_al0, T_getI, F_is2i, F_is2r, F_is2m, F_is3i, F_is3r, F_is3m, F_il1, F_is4i, F_is4r, F_is4m, T_ft, F_il4, J_iflt, T_I, F_is5i, F_is5r, F_is5m, F_is6i, F_is6r, F_is6m, F_il6, F_il5, T_getR, X_iald, T_add, T_goto, F_il2, T_i2l, T_mulL, T_L, F_il3, T_putI, T_putZ, T_ret, c243, c296, ↓s243, ↓s296, FM F, show ¬ c < 0 by omega, ↓reduceIte, TK, lt_run hn, le43, Int.le_refl, Int.lt_irrefl, Option.some.injEq, exists_eq_left', true_and, and_true, if_true, if_false, decide_eq_false_iff_not, decide_eq_true_eq, Nat.reduceAdd, Nat.reduceLeDiff, Nat.reduceLT, Int.reduceAdd, Int.reduceSub, Int.reduceMul, Int.reduceNeg, not_true_eq_false, not_false_eq_true]
    refine z295 F hn C hA c4 c1 ?_
    simp +decide (maxSteps := 4000000) (disch := omega) only [k295_0, k295_3, k295_4, k295_r, k295_s, F_al0, T_getI, F_is2i, F_is2r, F_is2m, F_is3i, F_is3r, F_is3m, F_il1, F_is4i, F_is4r, F_is4m, T_ft, F_il4, J_iflt, T_I, F_is5i, F_is5r, F_is5m, F_is6i, F_is6r, F_is6m, F_il6, F_il5, T_getR, X_iald, T_add, T_goto, F_il2, T_i2l, T_mulL, T_L, F_il3, T_putI, T_putZ, T_ret, c243, c296, ↓s243, FM F, g1.1, g1.2.1, ln_742, ln_743, ↓s296 hn, J_l, ↓reduceIte, TK, lt_run hn, le43, Int.le_refl, Int.lt_irrefl, Option.some.injEq, exists_eq_left', true_and, and_true, if_true, if_false, decide_eq_false_iff_not, decide_eq_true_eq, Nat.reduceAdd, Nat.reduceLeDiff, Nat.reduceLT, Int.reduceAdd, Int.reduceSub, Int.reduceMul, Int.reduceNeg, not_true_eq_false, not_false_eq_true]
    exact ih ((b c).1, _, _, _, _) _ ⟨rfl, ⟨r1.1.1, by dsimp only; omega⟩, by dsimp only; omega, by dsimp only; omega⟩ (by dsimp only; omega)
end CH
