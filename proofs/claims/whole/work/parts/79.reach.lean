/-! reach: the angles that come nearest -/
abbrev Rs : Type := Int × Int × Int × Int
def rst (d : Int → Int → Int → Int) (t : Rs) (u v w : Int) : Rs := if t.1 < 0 ∨ d u v w < t.1 then (d u v w, u, v, w) else t
def rcw (d : Int → Int → Int → Int) (u v lo : Int) (t : Rs) : Nat → Rs
  | 0 => t
  | k + 1 => rst d (rcw d u v lo t k) u v (lo + k)
def rcv (d : Int → Int → Int → Int) (u lo lw hw : Int) (t : Rs) : Nat → Rs
  | 0 => t
  | k + 1 => rcw d u (lo + k) lw (rcv d u lo lw hw t k) (hw - lw + 1).toNat
def rcu (d : Int → Int → Int → Int) (lo lv hv lw hw : Int) (t : Rs) : Nat → Rs
  | 0 => t
  | k + 1 => rcv d (lo + k) lv lw hw (rcu d lo lv hv lw hw t k) (hv - lv + 1).toNat
section RC
variable {d : Int → Int → Int → Int} {t : Rs} {u v lo lv hv lw hw : Int}
theorem rcw_s {w : Int} (h : lo ≤ w) : rcw d u v lo t (w + 1 - lo).toNat = rst d (rcw d u v lo t (w - lo).toNat) u v w := by
  rw [show (w + 1 - lo).toNat = (w - lo).toNat + 1 by omega]
  show rst d (rcw d u v lo t (w - lo).toNat) u v (lo + ((w - lo).toNat : Int)) = _
  rw [show lo + ((w - lo).toNat : Int) = w by omega]
theorem rcv_s {w : Int} (h : lo ≤ w) : rcv d u lo lw hw t (w + 1 - lo).toNat = rcw d u w lw (rcv d u lo lw hw t (w - lo).toNat) (hw - lw + 1).toNat := by
  rw [show (w + 1 - lo).toNat = (w - lo).toNat + 1 by omega]
  show rcw d u (lo + ((w - lo).toNat : Int)) lw (rcv d u lo lw hw t (w - lo).toNat) (hw - lw + 1).toNat = _
  rw [show lo + ((w - lo).toNat : Int) = w by omega]
theorem rcu_s {w : Int} (h : lo ≤ w) : rcu d lo lv hv lw hw t (w + 1 - lo).toNat = rcv d w lv lw hw (rcu d lo lv hv lw hw t (w - lo).toNat) (hv - lv + 1).toNat := by
  rw [show (w + 1 - lo).toNat = (w - lo).toNat + 1 by omega]
  show rcv d (lo + ((w - lo).toNat : Int)) lv lw hw (rcu d lo lv hv lw hw t (w - lo).toNat) (hv - lv + 1).toNat = _
  rw [show lo + ((w - lo).toNat : Int) = w by omega]
/-- what is known of a state: nothing found, or the distance is that of its angles, which lie in 0 .. 31 -/
def Rok (d : Int → Int → Int → Int) (P : Int → Int → Int → Prop) (t : Rs) : Prop := (t.1 = -1 ∧ t.2.1 = 0 ∧ t.2.2.1 = 0 ∧ t.2.2.2 = 0) ∨ (0 ≤ t.1 ∧ t.1 = d t.2.1 t.2.2.1 t.2.2.2 ∧ P t.2.1 t.2.2.1 t.2.2.2)
theorem rst_k {P : Int → Int → Int → Prop} (hd : ∀ u v w, 0 ≤ d u v w) (R : Rok d P t) {w : Int} (p : P u v w) : Rok d P (rst d t u v w) ∧ 0 ≤ (rst d t u v w).1 := by
  unfold rst
  by_cases g : t.1 < 0 ∨ d u v w < t.1
  · rw [if_pos g]
    exact ⟨Or.inr ⟨hd u v w, rfl, p⟩, hd u v w⟩
  · rw [if_neg g]
    exact ⟨R, by omega⟩
theorem rcw_k {P : Int → Int → Int → Prop} (hd : ∀ u v w, 0 ≤ d u v w) (R : Rok d P t) : ∀ k : Nat, (∀ w, lo ≤ w → w < lo + k → P u v w) → Rok d P (rcw d u v lo t k) ∧ (0 < k → 0 ≤ (rcw d u v lo t k).1) := by
  intro k
  induction k with
  | zero => intro _; exact ⟨R, fun h => by omega⟩
  | succ k ih =>
    intro p
    have a := rst_k hd (ih (fun w h1 h2 => p w h1 (by omega))).1 (p (lo + k) (by omega) (by omega))
    exact ⟨a.1, fun _ => a.2⟩
theorem rcv_k {P : Int → Int → Int → Prop} (hd : ∀ u v w, 0 ≤ d u v w) (R : Rok d P t) (hw' : lw ≤ hw) : ∀ k : Nat, (∀ v w, lo ≤ v → v < lo + k → lw ≤ w → w ≤ hw → P u v w) → Rok d P (rcv d u lo lw hw t k) ∧ (0 < k → 0 ≤ (rcv d u lo lw hw t k).1) := by
  intro k
  induction k with
  | zero => intro _; exact ⟨R, fun h => by omega⟩
  | succ k ih =>
    intro p
    have a := rcw_k (u := u) (v := lo + k) (lo := lw) hd (ih (fun v w h1 h2 => p v w h1 (by omega))).1 (hw - lw + 1).toNat (fun w h1 h2 => p (lo + k) w (by omega) (by omega) h1 (by omega))
    exact ⟨a.1, fun _ => a.2 (by omega)⟩
theorem rcu_k {P : Int → Int → Int → Prop} (hd : ∀ u v w, 0 ≤ d u v w) (R : Rok d P t) (hv' : lv ≤ hv) (hw' : lw ≤ hw) : ∀ k : Nat, (∀ u v w, lo ≤ u → u < lo + k → lv ≤ v → v ≤ hv → lw ≤ w → w ≤ hw → P u v w) → Rok d P (rcu d lo lv hv lw hw t k) ∧ (0 < k → 0 ≤ (rcu d lo lv hv lw hw t k).1) := by
  intro k
  induction k with
  | zero => intro _; exact ⟨R, fun h => by omega⟩
  | succ k ih =>
    intro p
    have a := rcv_k (u := lo + k) (lo := lv) hd (ih (fun u v w h1 h2 => p u v w h1 (by omega))).1 hw' (hv - lv + 1).toNat (fun v w h1 h2 h3 h4 => p (lo + k) v w (by omega) (by omega) h1 (by omega) h3 h4)
    exact ⟨a.1, fun _ => a.2 (by omega)⟩
end RC
/-- the bone above -/
def up (b : Int → Bn) (i : Int) : Int := if i = -1 then -1 else (b i).1
/-- an end at angles u, v, w of the three -/
def exy (b : Int → Bn) (A : Int → Int) (a c u v w : Int) : Int := eE b A c (up b (up b (up b a))) + bL b (up b (up b a)) (u + cS b A (up b (up b (up b a))) + c) + bL b (up b a) (v + u + cS b A (up b (up b (up b a))) + c) + bL b a (w + v + u + cS b A (up b (up b (up b a))) + c)
def dst (b : Int → Bn) (A : Int → Int) (a X Y u v w : Int) : Int := (exy b A a 8 u v w - X) * (exy b A a 8 u v w - X) + (exy b A a 0 u v w - Y) * (exy b A a 0 u v w - Y)
section RE
variable {E : AEn} {h h' : AHi} {hr : AHr} {n : Nat} {Q : ARs → Prop} {N : Int} {b : Int → Bn} {f a : Int}
theorem up_r (R : ∀ i, 0 ≤ i → i < N → BnR i (b i)) {i : Int} (i0 : -1 ≤ i) (i1 : i < N) : (-1 ≤ up b i ∧ up b i ≤ i ∧ up b i < N) ∧ (0 ≤ i → up b i = (b i).1 ∧ up b i < i) := by
  unfold up
  by_cases e : i = -1
  · rw [if_pos e]
    exact ⟨by omega, fun q => by omega⟩
  · rw [if_neg e]
    have := (R i (by omega) i1).1.1
    exact ⟨by omega, fun _ => ⟨rfl, this.2⟩⟩
theorem cS_c {g g' : Int → Int} (R : ∀ i, 0 ≤ i → i < N → BnR i (b i)) : ∀ (q : Nat) (i : Int), -1 ≤ i → i < N → i < q → (∀ j, 0 ≤ j → j ≤ i → g j = g' j) → cS b g i = cS b g' i := by
  intro q
  induction q with
  | zero => intro i h1 h2 h3 _; rw [show i = -1 by omega, cS_n, cS_n]
  | succ q ih =>
    intro i h1 h2 h3 hg
    rcases (show i = -1 ∨ 0 ≤ i by omega) with rfl | h5
    · rfl
    · have r := (R i h5 h2).1.1
      rw [cS_s R h5 h2, cS_s R h5 h2, hg i h5 (by omega), ih (b i).1 r.1 (by omega) (by omega) (fun j j0 j1 => hg j j0 (by omega))]
theorem eE_c {A A' : Int → Int} (R : ∀ i, 0 ≤ i → i < N → BnR i (b i)) {c i : Int} (i0 : -1 ≤ i) (i1 : i < N) (hN : N ≤ 10) (hg : ∀ j, 0 ≤ j → j ≤ i → A j = A' j) : eE b A c i = eE b A' c i := by
  unfold eE
  refine cS_c R 10 i i0 i1 (by omega) (fun j j0 j1 => ?_)
  rw [cS_c R 10 j (by omega) (by omega) (by omega) (fun k k0 k1 => hg k k0 (by omega))]
/-- an end with three angles replaced -/
theorem eE_3 (R : ∀ i, 0 ≤ i → i < N → BnR i (b i)) (hN : N ≤ 10) {A A' : Int → Int} {c u v w : Int} (a0 : 0 ≤ a) (a1 : a < N) (h0 : ∀ j, 0 ≤ j → j ≤ up b (up b (up b a)) → A' j = A j) (hu : (0 ≤ up b (up b a) → A' (up b (up b a)) = u) ∧ (up b (up b a) = -1 → u = 0)) (hv : (0 ≤ up b a → A' (up b a) = v) ∧ (up b a = -1 → v = 0)) (hw : A' a = w) : eE b A' c a = exy b A a c u v w := by
  have r1 := up_r R (i := a) (by omega) a1
  have r2 := up_r R r1.1.1 r1.1.2.2
  have r3 := up_r R r2.1.1 r2.1.2.2
  have one : ∀ i x, -1 ≤ i → i < N → ((0 ≤ i → A' i = x) ∧ (i = -1 → x = 0)) → cS b A' i = x + cS b A' (up b i) ∧ eE b A' c i = bL b i (cS b A' i + c) + eE b A' c (up b i) := fun i x i0 i1 hx => by
    rcases (show i = -1 ∨ 0 ≤ i by omega) with rfl | i2
    · rw [hx.2 rfl]
      exact ⟨rfl, rfl⟩
    · have u1 := (up_r R i0 i1).2 i2
      rw [u1.1, ← hx.1 i2]
      exact ⟨cS_s R i2 i1, cS_s R i2 i1⟩
  have o1 := one a w (by omega) a1 ⟨fun _ => hw, fun q => by omega⟩
  have o2 := one (up b a) v r1.1.1 r1.1.2.2 hv
  have o3 := one (up b (up b a)) u r2.1.1 r2.1.2.2 hu
  have e1 : cS b A' (up b (up b (up b a))) = cS b A (up b (up b (up b a))) := cS_c R 10 _ r3.1.1 r3.1.2.2 (by omega) h0
  have e2 : eE b A' c (up b (up b (up b a))) = eE b A c (up b (up b (up b a))) := eE_c R r3.1.1 r3.1.2.2 hN h0
  unfold exy
  rw [o1.2, o2.2, o3.2, o1.1, o2.1, o3.1, e1, e2, show w + (v + (u + cS b A (up b (up b (up b a))))) = w + v + u + cS b A (up b (up b (up b a))) by omega, show v + (u + cS b A (up b (up b (up b a)))) = v + u + cS b A (up b (up b (up b a))) by omega]
  omega
theorem exy_r (R : ∀ i, 0 ≤ i → i < N → BnR i (b i)) (hN : N ≤ 10) (a0 : 0 ≤ a) (a1 : a < N) (A : Int → Int) (c u v w : Int) : -533 ≤ exy b A a c u v w ∧ exy b A a c u v w ≤ 533 := by
  have r1 := up_r R (i := a) (by omega) a1
  have r2 := up_r R r1.1.1 r1.1.2.2
  have r3 := up_r R r2.1.1 r2.1.2.2
  have q0 := eE_r R hN A c r3.1.1 r3.1.2.2
  have q1 := bL_r R r2.1.2.2 r2.1.1 (u + cS b A (up b (up b (up b a))) + c)
  have q2 := bL_r R r1.1.2.2 r1.1.1 (v + u + cS b A (up b (up b (up b a))) + c)
  have q3 := bL_r R a1 (by omega) (w + v + u + cS b A (up b (up b (up b a))) + c)
  unfold exy
  omega
theorem dst_r (R : ∀ i, 0 ≤ i → i < N → BnR i (b i)) (hN : N ≤ 10) (a0 : 0 ≤ a) (a1 : a < N) (A : Int → Int) {X Y : Int} (hX : -800 ≤ X ∧ X ≤ 800) (hY : -800 ≤ Y ∧ Y ≤ 800) (u v w : Int) : 0 ≤ dst b A a X Y u v w ∧ dst b A a X Y u v w ≤ 4000000 := by
  have q1 := exy_r R hN a0 a1 A 8 u v w
  have q2 := exy_r R hN a0 a1 A 0 u v w
  unfold dst
  have m1 := mulb (a := exy b A a 8 u v w - X) (b := exy b A a 8 u v w - X) (A := 1400) (B := 1400) (by omega) (by omega)
  have m2 := mulb (a := exy b A a 0 u v w - Y) (b := exy b A a 0 u v w - Y) (A := 1400) (B := 1400) (by omega) (by omega)
  have s1 := sqn (exy b A a 8 u v w - X)
  have s2 := sqn (exy b A a 0 u v w - Y)
  omega
theorem s5 (F : FH hr) (hn : 775 ≤ n) (C : Bw N b h hr) {i : Int} (i0 : -1 ≤ i) (i1 : i < N) : Sp E 5 [.ref (bid i)] h hr n Q ↔ Q (some (.ref (bid (up b i))), h, hr, n) := by
  have V := C.v F i0 i1
  have x1 := V.1.x E F
  have x2 := V.1.r
  have v1 := V.2.1
  have lt1 : bid i < n := by omega
  have hN := C.1
  rcases (show i = -1 ∨ 0 ≤ i by omega) with rfl | i2
  · rw [bP_n] at v1
    have e : up b (-1) = -1 := rfl
    rw [e]
    simp +decide (maxSteps := 4000000) (disch := omega) only [k5_0, k5_1, k5_2, k5_r, k5_s, F_al0, F_an0, T_getR, T_nnR, T_nnN, T_goto, T_ft, T_ret, x1, v1, lt1, aref_n, ↓reduceIte, TK, lt_run hn, le43, Int.le_refl, Int.lt_irrefl, Option.some.injEq, exists_eq_left', true_and, and_true, if_true, if_false, decide_eq_false_iff_not, decide_eq_true_eq, Nat.reduceAdd, Nat.reduceLeDiff, Nat.reduceLT, Int.reduceAdd, Int.reduceSub, Int.reduceMul, Int.reduceNeg, not_true_eq_false, not_false_eq_true]
  · rw [bP_s i2] at v1
    have e : up b i = (b i).1 := if_neg (by omega)
    rw [e]
    have bl := bid_le (b i).1
    simp +decide (maxSteps := 4000000) (disch := omega) only [k5_0, k5_1, k5_2, k5_r, k5_s, F_al0, F_an0, T_getR, T_nnR, T_nnN, T_goto, T_ft, T_ret, x1, v1, lt1, bl, ↓reduceIte, TK, lt_run hn, le43, Int.le_refl, Int.lt_irrefl, Option.some.injEq, exists_eq_left', true_and, and_true, if_true, if_false, decide_eq_false_iff_not, decide_eq_true_eq, Nat.reduceAdd, Nat.reduceLeDiff, Nat.reduceLT, Int.reduceAdd, Int.reduceSub, Int.reduceMul, Int.reduceNeg, not_true_eq_false, not_false_eq_true]
/-- what the search ends with -/
def rch (b : Int → Bn) (A : Int → Int) (a X Y : Int) : Rs := rcu (dst b A a X Y) (bLo b (up b (up b a))) (bLo b (up b a)) (bHi b (up b a)) (bLo b a) (bHi b a) (-1, 0, 0, 0) (bHi b (up b (up b a)) - bLo b (up b (up b a)) + 1).toNat
def nrs (N : Int) : Int := if N < 0 then 1000000000 else N
def fnd (t : Rs) : Int := (t.2.1 * 32 + t.2.2.1) * 32 + t.2.2.2
theorem bLH (R : ∀ i, 0 ≤ i → i < N → BnR i (b i)) {i : Int} (i0 : -1 ≤ i) (i1 : i < N) : 0 ≤ bLo b i ∧ bLo b i ≤ bHi b i ∧ bHi b i ≤ 31 := by
  unfold bLo bHi
  by_cases e : i = -1
  · rw [if_pos e, if_pos e]
    omega
  · rw [if_neg e, if_neg e]
    exact (R i (by omega) i1).2.2.1
set_option maxHeartbeats 4000000 in
theorem w6 (F : FH hr) (hn : 775 ≤ n) (C : Bw N b h hr) (a0 : 0 ≤ a) (a1 : a < N) (hf : 0 ≤ f ∧ f ≤ 119) {X Y : Int} (hX : -800 ≤ X ∧ X ≤ 800) (hY : -800 ≤ Y ∧ Y ≤ 800)
    (k : Q (some (.int (J (fnd (rch b (an b f) a X Y)))), h, hr, n)) : Sp E 6 [.ref (bid a), .int (J f), .int (J X), .int (J Y)] h hr n Q := by
  have R := C.2.1
  have hN := C.1
  have r1 := up_r R (i := a) (by omega) a1
  have r2 := up_r R r1.1.1 r1.1.2.2
  have r3 := up_r R r2.1.1 r2.1.2.2
  have Va := C.v F (i := a) (by omega) a1
  have Vm := C.v F r1.1.1 r1.1.2.2
  have Vt := C.v F r2.1.1 r2.1.2.2
  have Vf := C.v F r3.1.1 r3.1.2.2
  have xa := Va.1.x E F
  have xm := Vm.1.x E F
  have xt := Vt.1.x E F
  have xf := Vf.1.x E F
  have xa2 := Va.1.r
  have xm2 := Vm.1.r
  have xt2 := Vt.1.r
  have xf2 := Vf.1.r
  have la := bLH R (i := a) (by omega) a1
  have lm := bLH R r1.1.1 r1.1.2.2
  have lt := bLH R r2.1.1 r2.1.2.2
  have ga := Va.2.2.1
  have gm := Vm.2.2.1
  have gt := Vt.2.2.1
  have ya := Va.2.2.2.2.2.2
  have ym := Vm.2.2.2.2.2.2
  have yt := Vt.2.2.2.2.2.2
  have ka : bid a < n := by omega
  have km : bid (up b a) < n := by omega
  have kt : bid (up b (up b a)) < n := by omega
  have kf : bid (up b (up b (up b a))) < n := by omega
  have S1 := fun Q => s5 (E := E) (Q := Q) F hn C (i := a) (by omega) a1
  have S2 := fun Q => s5 (E := E) (Q := Q) F hn C r1.1.1 r1.1.2.2
  have S3 := fun Q => s5 (E := E) (Q := Q) F hn C r2.1.1 r2.1.2.2
  simp +decide (maxSteps := 4000000) (disch := omega) only [k6_0, k6_4, k6_5, k6_6, k6_7, k6_r, k6_s, F_al0, F_an0, F_as4i, F_as4r, F_as4m, F_al4, F_an4, F_as5i, F_as5r, F_as5m, F_al5, F_an5, F_as6i, F_as6r, F_as6m, F_al6, F_an6, F_il1, F_is7i, F_is7r, F_is7m, F_il2, T_I, T_sub, F_is8i, F_is8r, F_is8m, F_il3, F_is9i, F_is9r, F_is9m, F_is10i, F_is10r, F_is10m, F_is11i, F_is11r, F_is11m, T_getI, F_is12i, F_is12r, F_is12m, T_ft, F_il12, T_icgt, F_il7, T_add, T_and, F_is13i, F_is13r, F_is13m, F_is14i, F_is14r, F_is14m, F_il14, F_il13, F_is15i, F_is15r, F_is15m, F_il8, T_getR, X_iald, F_il15, F_is16i, F_is16r, F_is16m, F_il9, F_is17i, F_is17r, F_is17m, F_is18i, F_is18r, F_is18m, F_il18, F_is19i, F_is19r, F_is19m, F_il16, F_il19, F_is20i, F_is20r, F_is20m, F_il17, F_is21i, F_is21r, F_is21m, F_il20, T_mul, F_il21, F_il10, T_icge, F_inc18i, F_inc18r, F_inc18m, T_goto, F_inc14i, F_inc14r, F_inc14m, F_inc12i, F_inc12r, F_inc12m, F_il11, T_ret, c3, c4, c5, S1, S2, S3, xa, xm, xt, xf, ka, km, kt, kf, ↓reduceIte, TK, lt_run hn, le43, Int.le_refl, Int.lt_irrefl, Option.some.injEq, exists_eq_left', true_and, and_true, if_true, if_false, decide_eq_false_iff_not, decide_eq_true_eq, Nat.reduceAdd, Nat.reduceLeDiff, Nat.reduceLT, Int.reduceAdd, Int.reduceSub, Int.reduceMul, Int.reduceNeg, not_true_eq_false, not_false_eq_true]
  refine w4 F hn C r3.1.1 r3.1.2.2 hf ?_
  simp +decide (maxSteps := 4000000) (disch := omega) only [k6_0, k6_4, k6_5, k6_6, k6_7, k6_r, k6_s, F_al0, F_an0, F_as4i, F_as4r, F_as4m, F_al4, F_an4, F_as5i, F_as5r, F_as5m, F_al5, F_an5, F_as6i, F_as6r, F_as6m, F_al6, F_an6, F_il1, F_is7i, F_is7r, F_is7m, F_il2, T_I, T_sub, F_is8i, F_is8r, F_is8m, F_il3, F_is9i, F_is9r, F_is9m, F_is10i, F_is10r, F_is10m, F_is11i, F_is11r, F_is11m, T_getI, F_is12i, F_is12r, F_is12m, T_ft, F_il12, T_icgt, F_il7, T_add, T_and, F_is13i, F_is13r, F_is13m, F_is14i, F_is14r, F_is14m, F_il14, F_il13, F_is15i, F_is15r, F_is15m, F_il8, T_getR, X_iald, F_il15, F_is16i, F_is16r, F_is16m, F_il9, F_is17i, F_is17r, F_is17m, F_is18i, F_is18r, F_is18m, F_il18, F_is19i, F_is19r, F_is19m, F_il16, F_il19, F_is20i, F_is20r, F_is20m, F_il17, F_is21i, F_is21r, F_is21m, F_il20, T_mul, F_il21, F_il10, T_icge, F_inc18i, F_inc18r, F_inc18m, T_goto, F_inc14i, F_inc14r, F_inc14m, F_inc12i, F_inc12r, F_inc12m, F_il11, T_ret, c3, c4, c5, ↓s5, xa, xm, xt, xf, ka, km, kt, kf, ↓reduceIte, TK, lt_run hn, le43, Int.le_refl, Int.lt_irrefl, Option.some.injEq, exists_eq_left', true_and, and_true, if_true, if_false, decide_eq_false_iff_not, decide_eq_true_eq, Nat.reduceAdd, Nat.reduceLeDiff, Nat.reduceLT, Int.reduceAdd, Int.reduceSub, Int.reduceMul, Int.reduceNeg, not_true_eq_false, not_false_eq_true]
  refine w3 F hn C (Or.inl rfl) r3.1.1 r3.1.2.2 hf ?_
  rw [if_pos rfl]
  simp +decide (maxSteps := 4000000) (disch := omega) only [k6_0, k6_4, k6_5, k6_6, k6_7, k6_r, k6_s, F_al0, F_an0, F_as4i, F_as4r, F_as4m, F_al4, F_an4, F_as5i, F_as5r, F_as5m, F_al5, F_an5, F_as6i, F_as6r, F_as6m, F_al6, F_an6, F_il1, F_is7i, F_is7r, F_is7m, F_il2, T_I, T_sub, F_is8i, F_is8r, F_is8m, F_il3, F_is9i, F_is9r, F_is9m, F_is10i, F_is10r, F_is10m, F_is11i, F_is11r, F_is11m, T_getI, F_is12i, F_is12r, F_is12m, T_ft, F_il12, T_icgt, F_il7, T_add, T_and, F_is13i, F_is13r, F_is13m, F_is14i, F_is14r, F_is14m, F_il14, F_il13, F_is15i, F_is15r, F_is15m, F_il8, T_getR, X_iald, F_il15, F_is16i, F_is16r, F_is16m, F_il9, F_is17i, F_is17r, F_is17m, F_is18i, F_is18r, F_is18m, F_il18, F_is19i, F_is19r, F_is19m, F_il16, F_il19, F_is20i, F_is20r, F_is20m, F_il17, F_is21i, F_is21r, F_is21m, F_il20, T_mul, F_il21, F_il10, T_icge, F_inc18i, F_inc18r, F_inc18m, T_goto, F_inc14i, F_inc14r, F_inc14m, F_inc12i, F_inc12r, F_inc12m, F_il11, T_ret, c3, c4, c5, ↓s5, xa, xm, xt, xf, ka, km, kt, kf, ↓reduceIte, TK, lt_run hn, le43, Int.le_refl, Int.lt_irrefl, Option.some.injEq, exists_eq_left', true_and, and_true, if_true, if_false, decide_eq_false_iff_not, decide_eq_true_eq, Nat.reduceAdd, Nat.reduceLeDiff, Nat.reduceLT, Int.reduceAdd, Int.reduceSub, Int.reduceMul, Int.reduceNeg, not_true_eq_false, not_false_eq_true]
  refine w3 F hn C (Or.inr rfl) r3.1.1 r3.1.2.2 hf ?_
  rw [if_neg (by decide)]
  simp +decide (maxSteps := 4000000) (disch := omega) only [k6_0, k6_4, k6_5, k6_6, k6_7, k6_r, k6_s, F_al0, F_an0, F_as4i, F_as4r, F_as4m, F_al4, F_an4, F_as5i, F_as5r, F_as5m, F_al5, F_an5, F_as6i, F_as6r, F_as6m, F_al6, F_an6, F_il1, F_is7i, F_is7r, F_is7m, F_il2, T_I, T_sub, F_is8i, F_is8r, F_is8m, F_il3, F_is9i, F_is9r, F_is9m, F_is10i, F_is10r, F_is10m, F_is11i, F_is11r, F_is11m, T_getI, F_is12i, F_is12r, F_is12m, T_ft, F_il12, T_icgt, F_il7, T_add, T_and, F_is13i, F_is13r, F_is13m, F_is14i, F_is14r, F_is14m, F_il14, F_il13, F_is15i, F_is15r, F_is15m, F_il8, T_getR, X_iald, F_il15, F_is16i, F_is16r, F_is16m, F_il9, F_is17i, F_is17r, F_is17m, F_is18i, F_is18r, F_is18m, F_il18, F_is19i, F_is19r, F_is19m, F_il16, F_il19, F_is20i, F_is20r, F_is20m, F_il17, F_is21i, F_is21r, F_is21m, F_il20, T_mul, F_il21, F_il10, T_icge, F_inc18i, F_inc18r, F_inc18m, T_goto, F_inc14i, F_inc14r, F_inc14m, F_inc12i, F_inc12r, F_inc12m, F_il11, T_ret, c3, c4, c5, ↓s5, xa, xm, xt, xf, ka, km, kt, kf, gt, ↓reduceIte, TK, lt_run hn, le43, Int.le_refl, Int.lt_irrefl, Option.some.injEq, exists_eq_left', true_and, and_true, if_true, if_false, decide_eq_false_iff_not, decide_eq_true_eq, Nat.reduceAdd, Nat.reduceLeDiff, Nat.reduceLT, Int.reduceAdd, Int.reduceSub, Int.reduceMul, Int.reduceNeg, not_true_eq_false, not_false_eq_true]
  have e8 := eE_r R hN.2 (an b f) 8 r3.1.1 r3.1.2.2
  have e0 := eE_r R hN.2 (an b f) 0 r3.1.1 r3.1.2.2
  have dd := dst_r R hN.2 a0 a1 (an b f) hX hY
  have dr0 : dr b f (up b (up b (up b a))) = cS b (an b f) (up b (up b (up b a))) := rfl
  have dfold : ∀ u v w, dst b (an b f) a X Y u v w = (eE b (an b f) 8 (up b (up b (up b a))) + bL b (up b (up b a)) (u + dr b f (up b (up b (up b a))) + 8) + bL b (up b a) (v + u + dr b f (up b (up b (up b a))) + 8) + bL b a (w + v + u + dr b f (up b (up b (up b a))) + 8) - X) * (eE b (an b f) 8 (up b (up b (up b a))) + bL b (up b (up b a)) (u + dr b f (up b (up b (up b a))) + 8) + bL b (up b a) (v + u + dr b f (up b (up b (up b a))) + 8) + bL b a (w + v + u + dr b f (up b (up b (up b a))) + 8) - X) + (eE b (an b f) 0 (up b (up b (up b a))) + bL b (up b (up b a)) (u + dr b f (up b (up b (up b a))) + 0) + bL b (up b a) (v + u + dr b f (up b (up b (up b a))) + 0) + bL b a (w + v + u + dr b f (up b (up b (up b a))) + 0) - Y) * (eE b (an b f) 0 (up b (up b (up b a))) + bL b (up b (up b a)) (u + dr b f (up b (up b (up b a))) + 0) + bL b (up b a) (v + u + dr b f (up b (up b (up b a))) + 0) + bL b a (w + v + u + dr b f (up b (up b (up b a))) + 0) - Y) := fun u v w => rfl
  clear dr0
  unfold rch at k
  generalize dst b (an b f) a X Y = ds at *
  generalize eE b (an b f) 8 (up b (up b (up b a))) = E8 at *
  generalize eE b (an b f) 0 (up b (up b (up b a))) = E0 at *
  generalize dr b f (up b (up b (up b a))) = D at *
  have bm : ∀ i d e, d % 32 = e % 32 → bL b i d = bL b i e := fun i d e q => bL_m i q
  have rk0 : Rok ds (fun u v w => (0 ≤ u ∧ u ≤ 31) ∧ (0 ≤ v ∧ v ≤ 31) ∧ 0 ≤ w ∧ w ≤ 31) (-1, 0, 0, 0) := Or.inl ⟨rfl, rfl, rfl, rfl⟩
  have hd0 : ∀ u v w, 0 ≤ ds u v w := fun u v w => (dd u v w).1
  refine T_for (σ := Rs × Value × Value × Value × Value × Value × Value × Value × Value × Value) (fun u t => [.ref (bid a), .int (J f), .int (J X), .int (J Y), .ref (bid (up b a)), .ref (bid (up b (up b a))), .ref (bid (up b (up b (up b a)))), .int (J (D % 32)), .int (J (X - E8)), .int (J (Y - E0)), .int (J (nrs t.1.1)), .int (J (fnd t.1)), .int (J u), t.2.1, t.2.2.1, t.2.2.2.1, t.2.2.2.2.1, t.2.2.2.2.2.1, t.2.2.2.2.2.2.1, t.2.2.2.2.2.2.2.1, t.2.2.2.2.2.2.2.2.1, t.2.2.2.2.2.2.2.2.2]) (fun u t h' => h' = h ∧ t.1 = rcu ds (bLo b (up b (up b a))) (bLo b (up b a)) (bHi b (up b a)) (bLo b a) (bHi b a) (-1, 0, 0, 0) (u - bLo b (up b (up b a))).toNat) (bLo b (up b (up b a))) (bHi b (up b (up b a)) + 1) ?_ ?_ (bLo b (up b (up b a))) ((-1, 0, 0, 0), a_mk, a_mk, a_mk, a_mk, a_mk, a_mk, a_mk, a_mk, a_mk) h (by omega) (by omega) ⟨rfl, by rw [show bLo b (up b (up b a)) - bLo b (up b (up b a)) = 0 by omega]; rfl⟩
  · rintro u ⟨t, v13, v14, v15, v16, v17, v18, v19, v20, v21⟩ h1 u0 u1 ⟨rfl, ht⟩ ih
    dsimp only at ht ⊢
    have us := rcu_s (d := ds) (lv := bLo b (up b a)) (hv := bHi b (up b a)) (lw := bLo b a) (hw := bHi b a) (t := (-1, 0, 0, 0)) u0
    rw [k6_1]
    simp +decide (maxSteps := 4000000) (disch := omega) only [k6_0, k6_4, k6_5, k6_6, k6_7, k6_r, k6_s, F_al0, F_an0, F_as4i, F_as4r, F_as4m, F_al4, F_an4, F_as5i, F_as5r, F_as5m, F_al5, F_an5, F_as6i, F_as6r, F_as6m, F_al6, F_an6, F_il1, F_is7i, F_is7r, F_is7m, F_il2, T_I, T_sub, F_is8i, F_is8r, F_is8m, F_il3, F_is9i, F_is9r, F_is9m, F_is10i, F_is10r, F_is10m, F_is11i, F_is11r, F_is11m, T_getI, F_is12i, F_is12r, F_is12m, T_ft, F_il12, T_icgt, F_il7, T_add, T_and, F_is13i, F_is13r, F_is13m, F_is14i, F_is14r, F_is14m, F_il14, F_il13, F_is15i, F_is15r, F_is15m, F_il8, T_getR, X_iald, F_il15, F_is16i, F_is16r, F_is16m, F_il9, F_is17i, F_is17r, F_is17m, F_is18i, F_is18r, F_is18m, F_il18, F_is19i, F_is19r, F_is19m, F_il16, F_il19, F_is20i, F_is20r, F_is20m, F_il17, F_is21i, F_is21r, F_is21m, F_il20, T_mul, F_il21, F_il10, T_icge, F_inc18i, F_inc18r, F_inc18m, T_goto, F_inc14i, F_inc14r, F_inc14m, F_inc12i, F_inc12r, F_inc12m, F_il11, T_ret, c3, c4, c5, ↓s5, xa, xm, xt, xf, ka, km, kt, kf, gt, gm, J_and31, show ¬ bHi b (up b (up b a)) < u by omega, ↓reduceIte, TK, lt_run hn, le43, Int.le_refl, Int.lt_irrefl, Option.some.injEq, exists_eq_left', true_and, and_true, if_true, if_false, decide_eq_false_iff_not, decide_eq_true_eq, Nat.reduceAdd, Nat.reduceLeDiff, Nat.reduceLT, Int.reduceAdd, Int.reduceSub, Int.reduceMul, Int.reduceNeg, not_true_eq_false, not_false_eq_true]
    have tk := (rcu_k (lo := bLo b (up b (up b a))) hd0 rk0 lm.2.1 la.2.1 (u - bLo b (up b (up b a))).toNat (fun x y z q1 q2 q3 q4 q5 q6 => by omega)).1
    rw [← ht] at tk us
    refine T_for (σ := Rs × Value × Value × Value × Value × Value × Value × Value) (fun v t => [.ref (bid a), .int (J f), .int (J X), .int (J Y), .ref (bid (up b a)), .ref (bid (up b (up b a))), .ref (bid (up b (up b (up b a)))), .int (J (D % 32)), .int (J (X - E8)), .int (J (Y - E0)), .int (J (nrs t.1.1)), .int (J (fnd t.1)), .int (J u), .int (J ((D % 32 + u) % 32)), .int (J v), t.2.1, t.2.2.1, t.2.2.2.1, t.2.2.2.2.1, t.2.2.2.2.2.1, t.2.2.2.2.2.2.1, t.2.2.2.2.2.2.2]) (fun v t' h' => h' = h1 ∧ t'.1 = rcv ds u (bLo b (up b a)) (bLo b a) (bHi b a) t (v - bLo b (up b a)).toNat) (bLo b (up b a)) (bHi b (up b a) + 1) ?_ ?_ (bLo b (up b a)) (t, v15, v16, v17, v18, v19, v20, v21) h1 (by omega) (by omega) ⟨rfl, by rw [show bLo b (up b a) - bLo b (up b a) = 0 by omega]; rfl⟩
    · rintro v ⟨t2, v15, v16, v17, v18, v19, v20, v21⟩ h2 v0 v1 ⟨rfl, ht2⟩ ih2
      dsimp only at ht2 ⊢
      have vs := rcv_s (d := ds) (u := u) (lw := bLo b a) (hw := bHi b a) (t := t) v0
      rw [← ht2] at vs
      have f1 := yt ((D % 32 + u) % 32) (by omega) (by omega)
      have f2 := ym (((D % 32 + u) % 32 + v) % 32) (by omega) (by omega)
      rw [k6_2]
      simp +decide (maxSteps := 4000000) (disch := omega) only [k6_0, k6_4, k6_5, k6_6, k6_7, k6_r, k6_s, F_al0, F_an0, F_as4i, F_as4r, F_as4m, F_al4, F_an4, F_as5i, F_as5r, F_as5m, F_al5, F_an5, F_as6i, F_as6r, F_as6m, F_al6, F_an6, F_il1, F_is7i, F_is7r, F_is7m, F_il2, T_I, T_sub, F_is8i, F_is8r, F_is8m, F_il3, F_is9i, F_is9r, F_is9m, F_is10i, F_is10r, F_is10m, F_is11i, F_is11r, F_is11m, T_getI, F_is12i, F_is12r, F_is12m, T_ft, F_il12, T_icgt, F_il7, T_add, T_and, F_is13i, F_is13r, F_is13m, F_is14i, F_is14r, F_is14m, F_il14, F_il13, F_is15i, F_is15r, F_is15m, F_il8, T_getR, X_iald, F_il15, F_is16i, F_is16r, F_is16m, F_il9, F_is17i, F_is17r, F_is17m, F_is18i, F_is18r, F_is18m, F_il18, F_is19i, F_is19r, F_is19m, F_il16, F_il19, F_is20i, F_is20r, F_is20m, F_il17, F_is21i, F_is21r, F_is21m, F_il20, T_mul, F_il21, F_il10, T_icge, F_inc18i, F_inc18r, F_inc18m, T_goto, F_inc14i, F_inc14r, F_inc14m, F_inc12i, F_inc12r, F_inc12m, F_il11, T_ret, c3, c4, c5, ↓s5, xa, xm, xt, xf, ka, km, kt, kf, ga, gm, f1.1, f2.1, J_and31, show ¬ bHi b (up b a) < v by omega, ↓reduceIte, TK, lt_run hn, le43, Int.le_refl, Int.lt_irrefl, Option.some.injEq, exists_eq_left', true_and, and_true, if_true, if_false, decide_eq_false_iff_not, decide_eq_true_eq, Nat.reduceAdd, Nat.reduceLeDiff, Nat.reduceLT, Int.reduceAdd, Int.reduceSub, Int.reduceMul, Int.reduceNeg, not_true_eq_false, not_false_eq_true]
      have tk2 := (rcv_k (u := u) (lo := bLo b (up b a)) hd0 tk la.2.1 (v - bLo b (up b a)).toNat (fun y z q1 q2 q3 q4 => by omega)).1
      rw [← ht2] at tk2
      refine T_for (σ := Rs × Value × Value × Value) (fun w t => [.ref (bid a), .int (J f), .int (J X), .int (J Y), .ref (bid (up b a)), .ref (bid (up b (up b a))), .ref (bid (up b (up b (up b a)))), .int (J (D % 32)), .int (J (X - E8)), .int (J (Y - E0)), .int (J (nrs t.1.1)), .int (J (fnd t.1)), .int (J u), .int (J ((D % 32 + u) % 32)), .int (J v), .int (J (((D % 32 + u) % 32 + v) % 32)), .int (J (X - E8 - bL b (up b (up b a)) ((D % 32 + u) % 32 + 8) - bL b (up b a) (((D % 32 + u) % 32 + v) % 32 + 8))), .int (J (Y - E0 - bL b (up b (up b a)) ((D % 32 + u) % 32) - bL b (up b a) (((D % 32 + u) % 32 + v) % 32))), .int (J w), t.2.1, t.2.2.1, t.2.2.2]) (fun w t' h' => h' = h2 ∧ t'.1 = rcw ds u v (bLo b a) t2 (w - bLo b a).toNat) (bLo b a) (bHi b a + 1) ?_ ?_ (bLo b a) (t2, v19, v20, v21) h2 (by omega) (by omega) ⟨rfl, by rw [show bLo b a - bLo b a = 0 by omega]; rfl⟩
      · rintro w ⟨t3, v19, v20, v21⟩ h3 w0 w1 ⟨rfl, ht3⟩ ih3
        dsimp only at ht3 ⊢
        have ws := rcw_s (d := ds) (u := u) (v := v) (t := t2) w0
        rw [← ht3] at ws
        have tk3 := (rcw_k (u := u) (v := v) (lo := bLo b a) hd0 tk2 (w - bLo b a).toNat (fun z q1 q2 => by omega)).1
        rw [← ht3] at tk3
        have f3 := ya ((((D % 32 + u) % 32 + v) % 32 + w) % 32) (by omega) (by omega)
        have q1 := bm (up b (up b a)) ((D % 32 + u) % 32 + 8) (u + D + 8) (by omega)
        have q2 := bm (up b (up b a)) ((D % 32 + u) % 32) (u + D + 0) (by omega)
        have q3 := bm (up b a) (((D % 32 + u) % 32 + v) % 32 + 8) (v + u + D + 8) (by omega)
        have q4 := bm (up b a) (((D % 32 + u) % 32 + v) % 32) (v + u + D + 0) (by omega)
        have q5 := bm a ((((D % 32 + u) % 32 + v) % 32 + w) % 32 + 8) (w + v + u + D + 8) (by omega)
        have q6 := bm a ((((D % 32 + u) % 32 + v) % 32 + w) % 32) (w + v + u + D + 0) (by omega)
        have d1 := dfold u v w
        have d2 := dd u v w
        have b1 := f1.2
        have b2 := f2.2
        have b3 := f3.2
        have nx : X - E8 - bL b (up b (up b a)) ((D % 32 + u) % 32 + 8) - bL b (up b a) (((D % 32 + u) % 32 + v) % 32 + 8) - bL b a ((((D % 32 + u) % 32 + v) % 32 + w) % 32 + 8) = -(E8 + bL b (up b (up b a)) (u + D + 8) + bL b (up b a) (v + u + D + 8) + bL b a (w + v + u + D + 8) - X) := by rw [q1, q3, q5]; omega
        have ny : Y - E0 - bL b (up b (up b a)) ((D % 32 + u) % 32) - bL b (up b a) (((D % 32 + u) % 32 + v) % 32) - bL b a ((((D % 32 + u) % 32 + v) % 32 + w) % 32) = -(E0 + bL b (up b (up b a)) (u + D + 0) + bL b (up b a) (v + u + D + 0) + bL b a (w + v + u + D + 0) - Y) := by rw [q2, q4, q6]; omega
        generalize E8 + bL b (up b (up b a)) (u + D + 8) + bL b (up b a) (v + u + D + 8) + bL b a (w + v + u + D + 8) - X = zx at *
        generalize E0 + bL b (up b (up b a)) (u + D + 0) + bL b (up b a) (v + u + D + 0) + bL b a (w + v + u + D + 0) - Y = zy at *
        have t1r : (t3.1 = -1 ∨ 0 ≤ t3.1 ∧ t3.1 ≤ 4000000) ∧ (0 ≤ t3.2.1 ∧ t3.2.1 ≤ 31) ∧ (0 ≤ t3.2.2.1 ∧ t3.2.2.1 ≤ 31) ∧ 0 ≤ t3.2.2.2 ∧ t3.2.2.2 ≤ 31 := by
          rcases tk3 with ⟨z1, z2, z3, z4⟩ | ⟨z1, z2, z3⟩
          · omega
          · have := dd t3.2.1 t3.2.2.1 t3.2.2.2
            omega
        by_cases g : t3.1 < 0 ∨ ds u v w < t3.1
        · have e1 : rst ds t3 u v w = (ds u v w, u, v, w) := if_pos g
          have lt1 : ds u v w < nrs t3.1 := by
            unfold nrs
            split <;> omega
          have nb : nrs t3.1 ≤ 1000000000 ∧ 0 ≤ nrs t3.1 := by
            unfold nrs
            split <;> omega
          have e2 : nrs (ds u v w) = ds u v w := if_neg (by omega)
          have e3 : fnd (ds u v w, u, v, w) = (u * 32 + v) * 32 + w := rfl
          rw [e1] at ws
          rw [k6_3]
          simp +decide (maxSteps := 4000000) (disch := omega) only [k6_0, k6_4, k6_5, k6_6, k6_7, k6_r, k6_s, F_al0, F_an0, F_as4i, F_as4r, F_as4m, F_al4, F_an4, F_as5i, F_as5r, F_as5m, F_al5, F_an5, F_as6i, F_as6r, F_as6m, F_al6, F_an6, F_il1, F_is7i, F_is7r, F_is7m, F_il2, T_I, T_sub, F_is8i, F_is8r, F_is8m, F_il3, F_is9i, F_is9r, F_is9m, F_is10i, F_is10r, F_is10m, F_is11i, F_is11r, F_is11m, T_getI, F_is12i, F_is12r, F_is12m, T_ft, F_il12, T_icgt, F_il7, T_add, T_and, F_is13i, F_is13r, F_is13m, F_is14i, F_is14r, F_is14m, F_il14, F_il13, F_is15i, F_is15r, F_is15m, F_il8, T_getR, X_iald, F_il15, F_is16i, F_is16r, F_is16m, F_il9, F_is17i, F_is17r, F_is17m, F_is18i, F_is18r, F_is18m, F_il18, F_is19i, F_is19r, F_is19m, F_il16, F_il19, F_is20i, F_is20r, F_is20m, F_il17, F_is21i, F_is21r, F_is21m, F_il20, T_mul, F_il21, F_il10, T_icge, F_inc18i, F_inc18r, F_inc18m, T_goto, F_inc14i, F_inc14r, F_inc14m, F_inc12i, F_inc12r, F_inc12m, F_il11, T_ret, c3, c4, c5, ↓s5, xa, xm, xt, xf, ka, km, kt, kf, ga, f3.1, J_and31, nx, ny, Int.neg_mul_neg, ← d1, show ¬ bHi b a < w by omega, show ¬ nrs t3.1 ≤ ds u v w by omega, ↓reduceIte, TK, lt_run hn, le43, Int.le_refl, Int.lt_irrefl, Option.some.injEq, exists_eq_left', true_and, and_true, if_true, if_false, decide_eq_false_iff_not, decide_eq_true_eq, Nat.reduceAdd, Nat.reduceLeDiff, Nat.reduceLT, Int.reduceAdd, Int.reduceSub, Int.reduceMul, Int.reduceNeg, not_true_eq_false, not_false_eq_true]
          rw [← e2, ← e3]
          exact ih3 (_, _, _, _) _ ⟨rfl, ws.symm⟩
        · have e1 : rst ds t3 u v w = t3 := if_neg g
          have nb : nrs t3.1 ≤ 1000000000 ∧ 0 ≤ nrs t3.1 ∧ nrs t3.1 ≤ ds u v w := by
            unfold nrs
            split <;> omega
          rw [e1] at ws
          rw [k6_3]
          simp +decide (maxSteps := 4000000) (disch := omega) only [k6_0, k6_4, k6_5, k6_6, k6_7, k6_r, k6_s, F_al0, F_an0, F_as4i, F_as4r, F_as4m, F_al4, F_an4, F_as5i, F_as5r, F_as5m, F_al5, F_an5, F_as6i, F_as6r, F_as6m, F_al6, F_an6, F_il1, F_is7i, F_is7r, F_is7m, F_il2, T_I, T_sub, F_is8i, F_is8r, F_is8m, F_il3, F_is9i, F_is9r, F_is9m, F_is10i, F_is10r, F_is10m, F_is11i, F_is11r, F_is11m, T_getI, F_is12i, F_is12r, F_is12m, T_ft, F_il12, T_icgt, F_il7, T_add, T_and, F_is13i, F_is13r, F_is13m, F_is14i, F_is14r, F_is14m, F_il14, F_il13, F_is15i, F_is15r, F_is15m, F_il8, T_getR, X_iald, F_il15, F_is16i, F_is16r, F_is16m, F_il9, F_is17i, F_is17r, F_is17m, F_is18i, F_is18r, F_is18m, F_il18, F_is19i, F_is19r, F_is19m, F_il16, F_il19, F_is20i, F_is20r, F_is20m, F_il17, F_is21i, F_is21r, F_is21m, F_il20, T_mul, F_il21, F_il10, T_icge, F_inc18i, F_inc18r, F_inc18m, T_goto, F_inc14i, F_inc14r, F_inc14m, F_inc12i, F_inc12r, F_inc12m, F_il11, T_ret, c3, c4, c5, ↓s5, xa, xm, xt, xf, ka, km, kt, kf, ga, f3.1, J_and31, nx, ny, Int.neg_mul_neg, ← d1, show ¬ bHi b a < w by omega, nb.2.2, ↓reduceIte, TK, lt_run hn, le43, Int.le_refl, Int.lt_irrefl, Option.some.injEq, exists_eq_left', true_and, and_true, if_true, if_false, decide_eq_false_iff_not, decide_eq_true_eq, Nat.reduceAdd, Nat.reduceLeDiff, Nat.reduceLT, Int.reduceAdd, Int.reduceSub, Int.reduceMul, Int.reduceNeg, not_true_eq_false, not_false_eq_true]
          exact ih3 (t3, _, _, _) _ ⟨rfl, ws.symm⟩
      · rintro ⟨t3, v19, v20, v21⟩ h3 ⟨rfl, ht3⟩
        dsimp only at ht3 ⊢
        rw [show bHi b a + 1 - bLo b a = bHi b a - bLo b a + 1 by omega, ← vs] at ht3
        rw [k6_3]
        simp +decide (maxSteps := 4000000) (disch := omega) only [k6_0, k6_4, k6_5, k6_6, k6_7, k6_r, k6_s, F_al0, F_an0, F_as4i, F_as4r, F_as4m, F_al4, F_an4, F_as5i, F_as5r, F_as5m, F_al5, F_an5, F_as6i, F_as6r, F_as6m, F_al6, F_an6, F_il1, F_is7i, F_is7r, F_is7m, F_il2, T_I, T_sub, F_is8i, F_is8r, F_is8m, F_il3, F_is9i, F_is9r, F_is9m, F_is10i, F_is10r, F_is10m, F_is11i, F_is11r, F_is11m, T_getI, F_is12i, F_is12r, F_is12m, T_ft, F_il12, T_icgt, F_il7, T_add, T_and, F_is13i, F_is13r, F_is13m, F_is14i, F_is14r, F_is14m, F_il14, F_il13, F_is15i, F_is15r, F_is15m, F_il8, T_getR, X_iald, F_il15, F_is16i, F_is16r, F_is16m, F_il9, F_is17i, F_is17r, F_is17m, F_is18i, F_is18r, F_is18m, F_il18, F_is19i, F_is19r, F_is19m, F_il16, F_il19, F_is20i, F_is20r, F_is20m, F_il17, F_is21i, F_is21r, F_is21m, F_il20, T_mul, F_il21, F_il10, T_icge, F_inc18i, F_inc18r, F_inc18m, T_goto, F_inc14i, F_inc14r, F_inc14m, F_inc12i, F_inc12r, F_inc12m, F_il11, T_ret, c3, c4, c5, ↓s5, xa, ka, ga, show bHi b a < bHi b a + 1 by omega, ↓reduceIte, TK, lt_run hn, le43, Int.le_refl, Int.lt_irrefl, Option.some.injEq, exists_eq_left', true_and, and_true, if_true, if_false, decide_eq_false_iff_not, decide_eq_true_eq, Nat.reduceAdd, Nat.reduceLeDiff, Nat.reduceLT, Int.reduceAdd, Int.reduceSub, Int.reduceMul, Int.reduceNeg, not_true_eq_false, not_false_eq_true]
        exact ih2 (t3, _, _, _, _, _, _, _) _ ⟨rfl, ht3⟩
    · rintro ⟨t2, v15, v16, v17, v18, v19, v20, v21⟩ h2 ⟨rfl, ht2⟩
      dsimp only at ht2 ⊢
      rw [show bHi b (up b a) + 1 - bLo b (up b a) = bHi b (up b a) - bLo b (up b a) + 1 by omega, ← us] at ht2
      rw [k6_2]
      simp +decide (maxSteps := 4000000) (disch := omega) only [k6_0, k6_4, k6_5, k6_6, k6_7, k6_r, k6_s, F_al0, F_an0, F_as4i, F_as4r, F_as4m, F_al4, F_an4, F_as5i, F_as5r, F_as5m, F_al5, F_an5, F_as6i, F_as6r, F_as6m, F_al6, F_an6, F_il1, F_is7i, F_is7r, F_is7m, F_il2, T_I, T_sub, F_is8i, F_is8r, F_is8m, F_il3, F_is9i, F_is9r, F_is9m, F_is10i, F_is10r, F_is10m, F_is11i, F_is11r, F_is11m, T_getI, F_is12i, F_is12r, F_is12m, T_ft, F_il12, T_icgt, F_il7, T_add, T_and, F_is13i, F_is13r, F_is13m, F_is14i, F_is14r, F_is14m, F_il14, F_il13, F_is15i, F_is15r, F_is15m, F_il8, T_getR, X_iald, F_il15, F_is16i, F_is16r, F_is16m, F_il9, F_is17i, F_is17r, F_is17m, F_is18i, F_is18r, F_is18m, F_il18, F_is19i, F_is19r, F_is19m, F_il16, F_il19, F_is20i, F_is20r, F_is20m, F_il17, F_is21i, F_is21r, F_is21m, F_il20, T_mul, F_il21, F_il10, T_icge, F_inc18i, F_inc18r, F_inc18m, T_goto, F_inc14i, F_inc14r, F_inc14m, F_inc12i, F_inc12r, F_inc12m, F_il11, T_ret, c3, c4, c5, ↓s5, xm, km, gm, show bHi b (up b a) < bHi b (up b a) + 1 by omega, ↓reduceIte, TK, lt_run hn, le43, Int.le_refl, Int.lt_irrefl, Option.some.injEq, exists_eq_left', true_and, and_true, if_true, if_false, decide_eq_false_iff_not, decide_eq_true_eq, Nat.reduceAdd, Nat.reduceLeDiff, Nat.reduceLT, Int.reduceAdd, Int.reduceSub, Int.reduceMul, Int.reduceNeg, not_true_eq_false, not_false_eq_true]
      exact ih (t2, _, _, _, _, _, _, _, _, _) _ ⟨rfl, ht2⟩
  · rintro ⟨t, v13, v14, v15, v16, v17, v18, v19, v20, v21⟩ h1 ⟨rfl, ht⟩
    dsimp only at ht ⊢
    rw [show bHi b (up b (up b a)) + 1 - bLo b (up b (up b a)) = bHi b (up b (up b a)) - bLo b (up b (up b a)) + 1 by omega] at ht
    rw [ht]
    rw [k6_1]
    simp +decide (maxSteps := 4000000) (disch := omega) only [k6_0, k6_4, k6_5, k6_6, k6_7, k6_r, k6_s, F_al0, F_an0, F_as4i, F_as4r, F_as4m, F_al4, F_an4, F_as5i, F_as5r, F_as5m, F_al5, F_an5, F_as6i, F_as6r, F_as6m, F_al6, F_an6, F_il1, F_is7i, F_is7r, F_is7m, F_il2, T_I, T_sub, F_is8i, F_is8r, F_is8m, F_il3, F_is9i, F_is9r, F_is9m, F_is10i, F_is10r, F_is10m, F_is11i, F_is11r, F_is11m, T_getI, F_is12i, F_is12r, F_is12m, T_ft, F_il12, T_icgt, F_il7, T_add, T_and, F_is13i, F_is13r, F_is13m, F_is14i, F_is14r, F_is14m, F_il14, F_il13, F_is15i, F_is15r, F_is15m, F_il8, T_getR, X_iald, F_il15, F_is16i, F_is16r, F_is16m, F_il9, F_is17i, F_is17r, F_is17m, F_is18i, F_is18r, F_is18m, F_il18, F_is19i, F_is19r, F_is19m, F_il16, F_il19, F_is20i, F_is20r, F_is20m, F_il17, F_is21i, F_is21r, F_is21m, F_il20, T_mul, F_il21, F_il10, T_icge, F_inc18i, F_inc18r, F_inc18m, T_goto, F_inc14i, F_inc14r, F_inc14m, F_inc12i, F_inc12r, F_inc12m, F_il11, T_ret, c3, c4, c5, ↓s5, xt, kt, gt, show bHi b (up b (up b a)) < bHi b (up b (up b a)) + 1 by omega, ↓reduceIte, TK, lt_run hn, le43, Int.le_refl, Int.lt_irrefl, Option.some.injEq, exists_eq_left', true_and, and_true, if_true, if_false, decide_eq_false_iff_not, decide_eq_true_eq, Nat.reduceAdd, Nat.reduceLeDiff, Nat.reduceLT, Int.reduceAdd, Int.reduceSub, Int.reduceMul, Int.reduceNeg, not_true_eq_false, not_false_eq_true]
    exact k
end RE
