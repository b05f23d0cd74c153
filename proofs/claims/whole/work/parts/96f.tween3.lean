/-! tween: the class's drawing between two -/
/-- the partners, and the sets on the way -/
def twH (a b : Int) (Z : Int → Int) (T : Nat → Int) : Prop := T 0 = 0 ∧ (∀ i : Nat, (i : Int) < a → T (i + 1) = if Z i < 8 then maA (T i) (Z i) else T i) ∧ (∀ i : Nat, (i : Int) ≤ a → 0 ≤ T i ∧ T i < maW b) ∧ ∀ i : Nat, (i : Int) < a → (0 ≤ Z i ∧ Z i < b ∧ maB (T i) (Z i) = false) ∨ Z i = 8
def twP (D D' : Drw) (Z : Int → Int) (a b i : Int) : List Stk := if Z i < 8 then (if 2 ≤ (btw (D.2 i) (D'.2 (Z i)) a b).2.1 then [btw (D.2 i) (D'.2 (Z i)) a b] else []) else if 2 * a < b then [D.2 i] else []
def twR (D D' : Drw) (Z : Int → Int) (a b : Int) : Nat → List Stk
  | 0 => []
  | i + 1 => twR D D' Z a b i ++ twP D D' Z a b i
def twS (D' : Drw) (T : Int) (l : List Stk) : Nat → List Stk
  | 0 => l
  | j + 1 => twS D' T l j ++ (if maB T j = true then [] else [D'.2 j])
def twF (D D' : Drw) (Z : Int → Int) (T : Nat → Int) (a b : Int) : List Stk := if 2 * a < b then twR D D' Z a b D.1.toNat else twS D' (T D.1.toNat) (twR D D' Z a b D.1.toNat) D'.1.toNat
section TC
variable {E : AEn} {h h' : AHi} {hr : AHr} {n : Nat} {Q : ARs → Prop} {s o st : Stk} {a b m : Int} {l : List Stk} {D D' : Drw} {Z : Int → Int} {T : Nat → Int}
theorem maF_A {S z : Int} (hS : 0 ≤ S ∧ S < 256) (hz : 0 ≤ z ∧ z < 8) (e : maB S z = false) : ∀ k : Nat, k ≤ 8 → maF (maA S z) k = maF S k - if z < k then 1 else 0 := by
  intro k
  induction k with
  | zero =>
    intro _
    rw [if_neg (by omega)]
    rfl
  | succ k ih =>
    intro hk
    show maF (maA S z) k + _ = maF S k + _ - _
    rw [ih (by omega), maB_A hS hz (by omega)]
    by_cases g : (k : Int) = z
    · rw [if_neg (show ¬ z < (k : Int) by omega), if_pos (show z < ((k + 1 : Nat) : Int) by omega), decide_eq_true g, Bool.or_true, if_pos rfl, g, e, if_neg (by decide)]
      omega
    · rw [decide_eq_false g, Bool.or_false]
      by_cases w : z < k
      · rw [if_pos w, if_pos (show z < ((k + 1 : Nat) : Int) by omega)]
        omega
      · rw [if_neg w, if_neg (show ¬ z < ((k + 1 : Nat) : Int) by omega)]
        omega
theorem maF_m (S : Int) : ∀ (d k : Nat), maF S k ≤ maF S (k + d) := by
  intro d k
  induction d with
  | zero => exact Int.le_refl _
  | succ d ih =>
    show _ ≤ maF S (k + d) + _
    split <;> omega
theorem maF_n {S j b : Int} (h0 : 0 ≤ j) (h1 : j < b) (e : maB S j = false) : maF S j.toNat + 1 ≤ maF S b.toNat := by
  have h2 := maF_m S (b.toNat - (j.toNat + 1)) (j.toNat + 1)
  rw [show j.toNat + 1 + (b.toNat - (j.toNat + 1)) = b.toNat by omega] at h2
  have h3 : maF S (j.toNat + 1) = maF S j.toNat + (if maB S (j.toNat : Int) = true then 0 else 1) := rfl
  rw [Int.toNat_of_nonneg h0, e, if_neg (by decide)] at h3
  omega
theorem twR_s {i : Int} (h : 0 ≤ i) : twR D D' Z a b (i + 1).toNat = twR D D' Z a b i.toNat ++ twP D D' Z a b i := by
  rw [show (i + 1).toNat = i.toNat + 1 by omega]
  show _ ++ twP D D' Z a b (i.toNat : Int) = _
  rw [Int.toNat_of_nonneg h]
theorem twS_s {t j : Int} (h : 0 ≤ j) : twS D' t l (j + 1).toNat = twS D' t l j.toNat ++ (if maB t j = true then [] else [D'.2 j]) := by
  rw [show (j + 1).toNat = j.toNat + 1 by omega]
  show _ ++ (if maB t (j.toNat : Int) = true then [] else [D'.2 (j.toNat : Int)]) = _
  rw [Int.toNat_of_nonneg h]
theorem twP_l (i : Int) : (twP D D' Z a b i).length ≤ 1 := by
  unfold twP
  repeat' split
  all_goals simp
theorem twR_l : ∀ i : Nat, (twR D D' Z a b i).length ≤ i := by
  intro i
  induction i with
  | zero => exact Nat.le_refl _
  | succ i ih =>
    have e : (twR D D' Z a b (i + 1)).length = (twR D D' Z a b i).length + (twP D D' Z a b i).length := List.length_append
    rw [e]
    have := twP_l (D := D) (D' := D') (Z := Z) (a := a) (b := b) i
    omega
/-- as many as are paired -/
theorem twR_b {d e : Int} (he : 0 ≤ e ∧ e ≤ 8) (H : twH d e Z T) (ne : ¬ 2 * a < b) : ∀ i : Nat, (i : Int) ≤ d → ((twR D D' Z a b i).length : Int) ≤ e - maF (T i) e.toNat := by
  have w := maW_r he
  have h0 : ∀ k : Nat, maF 0 k = k := by
    intro k
    induction k with
    | zero => rfl
    | succ k ih =>
      show maF 0 k + (if maB 0 k = true then 0 else 1) = _
      rw [ih, maB_0, if_neg (by decide)]
      omega
  intro i
  induction i with
  | zero =>
    intro _
    rw [H.1, h0]
    show ((0 : Nat) : Int) ≤ _
    omega
  | succ i ih =>
    intro hi
    have i1 := ih (by omega)
    have t1 := H.2.2.1 i (by omega)
    rw [H.2.1 i (by omega)]
    have ea : (twR D D' Z a b (i + 1)).length = (twR D D' Z a b i).length + (twP D D' Z a b i).length := List.length_append
    rw [ea]
    rcases H.2.2.2 i (by omega) with q | q
    · rw [if_pos (by omega), maF_A (by omega) (by omega) q.2.2 _ (by omega), if_pos (by omega)]
      have := twP_l (D := D) (D' := D') (Z := Z) (a := a) (b := b) i
      omega
    · rw [if_neg (by omega)]
      have : (twP D D' Z a b i).length = 0 := by
        unfold twP
        rw [if_neg (by omega), if_neg ne]
        rfl
      omega
theorem twS_b {t : Int} (j : Nat) : ((twS D' t l j).length : Int) ≤ l.length + maF t j := by
  induction j with
  | zero =>
    show (l.length : Int) ≤ l.length + 0
    omega
  | succ j ih =>
    have ea : (twS D' t l (j + 1)).length = (twS D' t l j).length + (if maB t j = true then [] else [D'.2 j]).length := List.length_append
    have eb : maF t (j + 1) = maF t j + (if maB t j = true then 0 else 1) := rfl
    rw [ea, eb]
    by_cases g : maB t j = true
    · rw [if_pos g, if_pos g]
      show (((twS D' t l j).length + 0 : Nat) : Int) ≤ _
      omega
    · rw [if_neg g, if_neg g]
      show (((twS D' t l j).length + 1 : Nat) : Int) ≤ _
      omega
theorem twP_m (R : DRr D) (R' : DRr D') (ha : 0 ≤ a ∧ a ≤ b) (hb : 1 ≤ b ∧ b ≤ 24) (i : Int) : ∀ st ∈ twP D D' Z a b i, SR st := by
  intro st hs
  unfold twP at hs
  split at hs
  · split at hs
    case isTrue w =>
      rw [List.mem_singleton] at hs
      rw [hs]
      exact (btw_r (R.2 i) (R'.2 _) ha hb).2 w
    · cases hs
  · split at hs
    · rw [List.mem_singleton] at hs
      rw [hs]
      exact R.2 i
    · cases hs
theorem twR_m (R : DRr D) (R' : DRr D') (ha : 0 ≤ a ∧ a ≤ b) (hb : 1 ≤ b ∧ b ≤ 24) : ∀ i : Nat, ∀ st ∈ twR D D' Z a b i, SR st := by
  intro i
  induction i with
  | zero => intro st hs; cases hs
  | succ i ih =>
    intro st hs
    rcases List.mem_append.mp hs with q | q
    · exact ih st q
    · exact twP_m R R' ha hb i st q
theorem twS_m (R' : DRr D') {t : Int} (hl : ∀ st ∈ l, SR st) : ∀ j : Nat, ∀ st ∈ twS D' t l j, SR st := by
  intro j
  induction j with
  | zero => exact hl
  | succ j ih =>
    intro st hs
    rcases List.mem_append.mp hs with q | q
    · exact ih st q
    · split at q
      · cases q
      · rw [List.mem_singleton] at q
        rw [q]
        exact R'.2 j
theorem twF_r (R : DRr D) (R' : DRr D') (ha : 0 ≤ a ∧ a ≤ b) (hb : 1 ≤ b ∧ b ≤ 24) (H : twH D.1 D'.1 Z T) : (twF D D' Z T a b).length ≤ 8 ∧ ∀ st ∈ twF D D' Z T a b, SR st := by
  have r1 := R.1
  have r2 := R'.1
  unfold twF
  by_cases g : 2 * a < b
  · rw [if_pos g]
    have := twR_l (D := D) (D' := D') (Z := Z) (a := a) (b := b) D.1.toNat
    exact ⟨by omega, twR_m R R' ha hb _⟩
  · rw [if_neg g]
    have h1 := twR_b (D := D) (D' := D') (a := a) (b := b) r2 H g D.1.toNat (by omega)
    have h2 := twS_b (D' := D') (t := T D.1.toNat) (l := twR D D' Z a b D.1.toNat) D'.1.toNat
    exact ⟨by omega, twS_m R' (twR_m R R' ha hb _) _⟩
theorem lsA_c : (lsD (l ++ [st])).1 = (l.length : Int) + 1 := by
  show ((l ++ [st]).length : Int) = _
  rw [List.length_append]
  rfl
theorem lsA_o {i : Int} (h : i.toNat < l.length) : (lsD (l ++ [st])).2 i = (lsD l).2 i := by
  show (l ++ [st]).getD i.toNat st0 = l.getD i.toNat st0
  rw [List.getD_eq_getElem?_getD, List.getD_eq_getElem?_getD, List.getElem?_append_left h]
theorem lsA_n {i : Int} (h : i.toNat = l.length) : (lsD (l ++ [st])).2 i = st := by
  show (l ++ [st]).getD i.toNat st0 = st
  rw [List.getD_eq_getElem?_getD, h, List.getElem?_append_right (Nat.le_refl _), Nat.sub_self]
  rfl
theorem DC_a {b : Nat} {ρ : Nat → Nat} (c : h' b 1 = J ((l.length : Int) + 1)) (S : SC h' (ρ l.length) st) (old : ∀ s : Int, 0 ≤ s → s < l.length → SC h' (ρ s.toNat) ((lsD l).2 s)) : DC h' b ρ (lsD (l ++ [st])) := by
  refine ⟨by rw [lsA_c]; exact c, fun s s0 s1 => ?_⟩
  rw [lsA_c] at s1
  by_cases g : s < l.length
  · rw [lsA_o (by omega)]
    exact old s s0 g
  · rw [lsA_n (by omega), show s.toNat = l.length by omega]
    exact S
/-- a whole stroke is added -/
theorem w39a (F : FH hr) (hn : 775 ≤ n) {t q : Nat} (B : DB t) {ρ : Nat → Nat} (P : PS hr t ρ) (O : SB q) (ap : q + 3 ≤ t ∨ t + 29 ≤ q) (hl : l.length < 8) (C : DC h t ρ (lsD l)) (S : SC h q s) (R : SR s)
    (k : ∀ h', Ef (Sb t) h h' → DC h' t ρ (lsD (l ++ [s])) → Q (some (.int (J 1)), h', hr, n)) : Sp E 39 [.ref t, .ref q, .int (J 0), .int (J (s.2.1 - 1))] h hr n Q := by
  have r2 := R.2.1
  have pr := P.r (s := l.length) hl
  have x2 := B.r
  refine w39 F hn B P O (m := (l.length : Int)) (by omega) (by rw [Int.toNat_natCast]; omega) C.1 S r2.2 (by decide) (by omega) (by omega) (fun h2 C2 c3 e2 => ?_)
  rw [prt_all, Int.toNat_natCast] at C2
  rw [Int.toNat_natCast] at e2
  refine k h2 (e2.mono fun x k q => ?_) (DC_a c3 C2 (fun s s0 s1 => ?_))
  · unfold Sa at q
    unfold Sb
    omega
  · have ap2 := P.ap (s := s.toNat) (t := l.length) (by omega) (by omega) (by omega)
    have sr := P.r (s := s.toNat) (by omega)
    exact (C.2 s s0 s1).ef e2 (fun x k q1 q2 q => by unfold Sa at q; omega)
theorem w47 (F : FH hr) (hn : 775 ≤ n) {t p q : Nat} (B : DB t) {ρ : Nat → Nat} (P : PS hr t ρ) (O : SB p) (O' : SB q) (ap : p + 3 ≤ t ∨ t + 29 ≤ p) (aq : q + 3 ≤ t ∨ t + 29 ≤ q) (hl : l.length < 8) (C : DC h t ρ (lsD l)) (S : SC h p s) (S' : SC h q o) (R : SR s) (R' : SR o) (ha : 0 ≤ a ∧ a ≤ b) (hb : 1 ≤ b ∧ b ≤ 24)
    (k : ∀ h', Ef (Sb t) h h' → DC h' t ρ (lsD (l ++ (if 2 ≤ (btw s o a b).2.1 then [btw s o a b] else []))) → Q (none, h', hr, n)) : Sp E 47 [.ref t, .ref p, .ref q, .int (J a), .int (J b)] h hr n Q := by
  have x1 := B.x E F
  have x2 := B.r
  have d1 : h t 1 = J (l.length : Int) := C.1
  have p1 := (P.1 l.length hl).1
  have pr := P.r (s := l.length) hl
  have A := P.sb B (s := l.length) hl
  have z1 := A.x E F
  have z2 := A.r
  have y1 := O.x E F
  have y2 := O'.x E F
  have bt := btw_r R R' ha hb
  simp +decide (maxSteps := 4000000) (disch := omega) only [k47_0, k47_1, k47_r, k47_s, F_al0, T_getI, T_I, T_icge, T_getR, X_aald, F_al1, F_al2, F_il3, F_il4, T_iclt, T_dupI, T_dupR, T_add, T_putI, T_putZ, T_ft, T_ret, c129, x1, d1, p1, z1, y1, y2, show ¬ 8 ≤ (l.length : Int) by omega, Int.toNat_natCast, ↓reduceIte, TK, lt_run hn, le43, Int.le_refl, Int.lt_irrefl, Option.some.injEq, exists_eq_left', true_and, and_true, if_true, if_false, decide_eq_false_iff_not, decide_eq_true_eq, Nat.reduceAdd, Nat.reduceLeDiff, Nat.reduceLT, Int.reduceAdd, Int.reduceSub, Int.reduceMul, Int.reduceNeg, not_true_eq_false, not_false_eq_true]
  refine w129 F hn A O O' (by omega) (by omega) S S' R R' ha hb (fun h1 e1 c1 => ?_)
  have old : ∀ h2 : AHi, Ef (fun x k => Sa (ρ l.length) x k ∨ (x = t ∧ k = 1)) h h2 → ∀ s : Int, 0 ≤ s → s < l.length → SC h2 (ρ s.toNat) ((lsD l).2 s) := fun h2 e2 s s0 s1 => by
    have ap2 := P.ap (s := s.toNat) (t := l.length) (by omega) (by omega) (by omega)
    have sr := P.r (s := s.toNat) (by omega)
    exact (C.2 s s0 s1).ef e2 (fun x k q1 q2 q => by unfold Sa at q; omega)
  have d2 : h1 t 1 = J (l.length : Int) := (e1 t 1 (fun q => by unfold Sa at q; omega)).trans d1
  have d3 := c1.1.2
  by_cases g : 2 ≤ (btw s o a b).2.1
  · rw [if_pos g] at k
    simp +decide (maxSteps := 4000000) (disch := omega) only [k47_0, k47_1, k47_r, k47_s, F_al0, T_getI, T_I, T_icge, T_getR, X_aald, F_al1, F_al2, F_il3, F_il4, T_iclt, T_dupI, T_dupR, T_add, T_putI, T_putZ, T_ft, T_ret, c129, x1, d2, p1, z1, d3, Int.toNat_natCast, show ¬ (btw s o a b).2.1 < 2 by omega, ↓reduceIte, TK, lt_run hn, le43, Int.le_refl, Int.lt_irrefl, Option.some.injEq, exists_eq_left', true_and, and_true, if_true, if_false, decide_eq_false_iff_not, decide_eq_true_eq, Nat.reduceAdd, Nat.reduceLeDiff, Nat.reduceLT, Int.reduceAdd, Int.reduceSub, Int.reduceMul, Int.reduceNeg, not_true_eq_false, not_false_eq_true]
    have e2 : Ef (fun x k => Sa (ρ l.length) x k ∨ (x = t ∧ k = 1)) h (hI h1 t 1 (J ((l.length : Int) + 1))) := Ef.hI (e1.mono fun x k q => Or.inl q) (Or.inr ⟨rfl, rfl⟩)
    refine k _ (e2.mono fun x k q => ?_) (DC_a hI_s (c1.ef (S := fun x k => x = t) (Ef.refl.hI rfl) (fun x k q1 q2 q => by omega)) (old _ e2))
    unfold Sa at q
    unfold Sb
    omega
  · rw [if_neg g, List.append_nil] at k
    simp +decide (maxSteps := 4000000) (disch := omega) only [k47_0, k47_1, k47_r, k47_s, F_al0, T_getI, T_I, T_icge, T_getR, X_aald, F_al1, F_al2, F_il3, F_il4, T_iclt, T_dupI, T_dupR, T_add, T_putI, T_putZ, T_ft, T_ret, c129, x1, d2, p1, z1, d3, Int.toNat_natCast, show (btw s o a b).2.1 < 2 by omega, ↓reduceIte, TK, lt_run hn, le43, Int.le_refl, Int.lt_irrefl, Option.some.injEq, exists_eq_left', true_and, and_true, if_true, if_false, decide_eq_false_iff_not, decide_eq_true_eq, Nat.reduceAdd, Nat.reduceLeDiff, Nat.reduceLT, Int.reduceAdd, Int.reduceSub, Int.reduceMul, Int.reduceNeg, not_true_eq_false, not_false_eq_true]
    refine k _ (e1.mono fun x k q => ?_) ⟨d2, old _ (e1.mono fun x k q => Or.inl q)⟩
    unfold Sa at q
    unfold Sb
    omega
theorem w46 (F : FH hr) (hn : 775 ≤ n) {t p q : Nat} {ρ ρp ρq : Nat → Nat} (B : DB t) (Bp : DB p) (Bq : DB q) (t0 : 159 ≤ t) (ap : p + 29 ≤ t ∨ t + 29 ≤ p) (aq : q + 29 ≤ t ∨ t + 29 ≤ q) (P : PS hr t ρ) (Pp : PS hr p ρp) (Pq : PS hr q ρq) (C : DC h p ρp D) (C' : DC h q ρq D') (R : DRr D) (R' : DRr D') (H : twH D.1 D'.1 Z T) (z : ∀ i, 0 ≤ i → i < D.1 → gA h 96 i = J (Z i)) (ha : 0 ≤ a ∧ a ≤ b) (hb : 1 ≤ b ∧ b ≤ 24)
    (k : ∀ h', Ef (Sb t) h h' → DC h' t ρ (lsD (twF D D' Z T a b)) → Q (none, h', hr, n)) : Sp E 46 [.ref t, .ref p, .ref q, .ref 96, .int (J a), .int (J b)] h hr n Q := by
  have x1 := B.x E F
  have x2 := B.r
  have y1 := Bp.x E F
  have y2 := Bp.r
  have z1 := Bq.x E F
  have z2 := Bq.r
  have r1 := R.1
  have r2 := R'.1
  have w := maW_r R'.1
  have fr : ∀ {h'}, Ef (Sb t) h h' → (h' p 1 = J D.1 ∧ h' q 1 = J D'.1) ∧ (∀ i, 0 ≤ i → i < D.1 → SC h' (ρp i.toNat) (D.2 i) ∧ gA h' 96 i = J (Z i)) ∧ ∀ j, 0 ≤ j → j < D'.1 → SC h' (ρq j.toNat) (D'.2 j) := fun e => by
    refine ⟨⟨(e p 1 (fun q => by unfold Sb at q; omega)).trans C.1, (e q 1 (fun q => by unfold Sb at q; omega)).trans C'.1⟩, fun i i0 i1 => ⟨?_, ?_⟩, fun j j0 j1 => ?_⟩
    · have pr := Pp.r (s := i.toNat) (by omega)
      exact (C.2 i i0 i1).ef e (fun x k q1 q2 q => by unfold Sb at q; omega)
    · rw [e.g (fun q => by unfold Sb at q; omega)]
      exact z i i0 i1
    · have pr := Pq.r (s := j.toNat) (by omega)
      exact (C'.2 j j0 j1).ef e (fun x k q1 q2 q => by unfold Sb at q; omega)
  have h0 : Ef (Sb t) h (hI h t 1 (J 0)) ∧ DC (hI h t 1 (J 0)) t ρ (lsD []) := ⟨Ef.hI Ef.refl (Or.inl ⟨rfl, rfl⟩), hI_s, fun s s0 s1 => by have : s < 0 := s1; omega⟩
  have main : ∀ (e : Bool), e = decide (2 * a < b) → Tm E 46 (a_bl 46 3) [.ref t, .ref p, .ref q, .ref 96, .int (J a), .int (J b), .int (Bz e), .int (J 0), .int (J 0)] [] (hI h t 1 (J 0)) hr n Q := fun e he => by
    have lp := T_for (E := E) (m := 46) (L := 3) (hr := hr) (n := n) (Q := Q) (σ := Unit) (fun i _ => [.ref t, .ref p, .ref q, .ref 96, .int (J a), .int (J b), .int (Bz e), .int (J (T i.toNat)), .int (J i)]) (fun i _ h' => Ef (Sb t) h h' ∧ DC h' t ρ (lsD (twR D D' Z a b i.toNat))) 0 D.1 ?_ ?_ 0 () (hI h t 1 (J 0)) (by omega) (by omega) h0
    · rw [show (0 : Int).toNat = 0 from rfl, H.1] at lp
      exact lp
    · rintro i _ h' i0 i1 ⟨e1, c1⟩ ih
      obtain ⟨⟨f1, f2⟩, f3, f4⟩ := fr e1
      obtain ⟨f5, f6⟩ := f3 i i0 i1
      have a1 := (Pp.1 i.toNat (by omega)).1
      have A := Pp.sb Bp (s := i.toNat) (by omega)
      have s1 := Pp.r (s := i.toNat) (by omega)
      have u1 := A.x E F
      have u2 := A.r
      have ll := twR_l (D := D) (D' := D') (Z := Z) (a := a) (b := b) i.toNat
      have ts := H.2.1 i.toNat (by omega)
      have tr := H.2.2.1 i.toNat (by omega)
      have zr := H.2.2.2 i.toNat (by omega)
      rw [Int.toNat_of_nonneg i0] at ts zr
      have es := twR_s (D := D) (D' := D') (Z := Z) (a := a) (b := b) i0
      have ih' := ih ()
      try dsimp only at ih'
      rw [es, show (i + 1).toNat = i.toNat + 1 by omega, ts] at ih'
      unfold twP at ih'
      have f7 := f5.1.2
      have r3 := (R.2 i).2.1
      rcases zr with zr | zr
      · simp only [if_pos (show Z i < 8 by omega)] at ih'
        have a2 := (Pq.1 (Z i).toNat (by omega)).1
        have A' := Pq.sb Bq (s := (Z i).toNat) (by omega)
        have s2 := Pq.r (s := (Z i).toNat) (by omega)
        have v1 := A'.x E F
        have v2 := A'.r
        have o1 := mor (S := T i.toNat) (j := Z i) (by omega) (by omega)
        rw [k46_3]
        simp +decide (maxSteps := 4000000) (disch := omega) only [k46_0, k46_1, k46_2, k46_4, k46_5, k46_6, k46_8, k46_9, k46_r, k46_s, F_al0, T_I, T_putI, T_putZ, F_il4, T_mul, F_il5, T_icge, T_goto, T_ft, F_is6i, F_is6r, F_is6m, F_is7i, F_is7r, F_is7m, F_is8i, F_is8r, F_is8m, F_il8, F_al1, T_getI, F_al3, X_iald, F_al2, F_il7, T_shl, T_or, T_getR, X_aald, F_il6, J_ifeq, T_sub, T_popI, F_inc8i, F_inc8r, F_inc8m, J_ifne, T_shr, T_and, T_ret, c39, c47, x1, y1, z1, f1, f2, f6, a1, a2, u1, v1, o1, kd_96, ln_96, show ¬ D.1 ≤ i by omega, show ¬ D'.1 ≤ Z i by omega, ↓reduceIte, TK, lt_run hn, le43, Int.le_refl, Int.lt_irrefl, Option.some.injEq, exists_eq_left', true_and, and_true, if_true, if_false, decide_eq_false_iff_not, decide_eq_true_eq, Nat.reduceAdd, Nat.reduceLeDiff, Nat.reduceLT, Int.reduceAdd, Int.reduceSub, Int.reduceMul, Int.reduceNeg, not_true_eq_false, not_false_eq_true]
        refine w47 F hn B P A A' (by omega) (by omega) (by omega) c1 f5 (f4 _ zr.1 zr.2.1) (R.2 i) (R'.2 _) ha hb (fun h2 e2 c2 => ?_)
        simp +decide (maxSteps := 4000000) (disch := omega) only [k46_0, k46_1, k46_2, k46_4, k46_5, k46_6, k46_8, k46_9, k46_r, k46_s, F_al0, T_I, T_putI, T_putZ, F_il4, T_mul, F_il5, T_icge, T_goto, T_ft, F_is6i, F_is6r, F_is6m, F_is7i, F_is7r, F_is7m, F_is8i, F_is8r, F_is8m, F_il8, F_al1, T_getI, F_al3, X_iald, F_al2, F_il7, T_shl, T_or, T_getR, X_aald, F_il6, J_ifeq, T_sub, T_popI, F_inc8i, F_inc8r, F_inc8m, J_ifne, T_shr, T_and, T_ret, c39, c47, ↓reduceIte, TK, lt_run hn, le43, Int.le_refl, Int.lt_irrefl, Option.some.injEq, exists_eq_left', true_and, and_true, if_true, if_false, decide_eq_false_iff_not, decide_eq_true_eq, Nat.reduceAdd, Nat.reduceLeDiff, Nat.reduceLT, Int.reduceAdd, Int.reduceSub, Int.reduceMul, Int.reduceNeg, not_true_eq_false, not_false_eq_true]
        exact ih' _ ⟨e1.trans e2, c2⟩
      · simp only [if_neg (show ¬ Z i < 8 by omega)] at ih'
        by_cases g : 2 * a < b
        · rw [if_pos g] at ih'
          rw [he, decide_eq_true g] at ih' ⊢
          rw [k46_3]
          simp +decide (maxSteps := 4000000) (disch := omega) only [k46_0, k46_1, k46_2, k46_4, k46_5, k46_6, k46_8, k46_9, k46_r, k46_s, F_al0, T_I, T_putI, T_putZ, F_il4, T_mul, F_il5, T_icge, T_goto, T_ft, F_is6i, F_is6r, F_is6m, F_is7i, F_is7r, F_is7m, F_is8i, F_is8r, F_is8m, F_il8, F_al1, T_getI, F_al3, X_iald, F_al2, F_il7, T_shl, T_or, T_getR, X_aald, F_il6, J_ifeq, T_sub, T_popI, F_inc8i, F_inc8r, F_inc8m, J_ifne, T_shr, T_and, T_ret, c39, c47, x1, y1, z1, f1, f2, f6, a1, u1, f7, zr, Bz_t, kd_96, ln_96, show ¬ D.1 ≤ i by omega, show D'.1 ≤ 8 by omega, ↓reduceIte, TK, lt_run hn, le43, Int.le_refl, Int.lt_irrefl, Option.some.injEq, exists_eq_left', true_and, and_true, if_true, if_false, decide_eq_false_iff_not, decide_eq_true_eq, Nat.reduceAdd, Nat.reduceLeDiff, Nat.reduceLT, Int.reduceAdd, Int.reduceSub, Int.reduceMul, Int.reduceNeg, not_true_eq_false, not_false_eq_true]
          refine w39a F hn B P A (by omega) (by omega) c1 f5 (R.2 i) (fun h2 e2 c2 => ?_)
          simp +decide (maxSteps := 4000000) (disch := omega) only [k46_0, k46_1, k46_2, k46_4, k46_5, k46_6, k46_8, k46_9, k46_r, k46_s, F_al0, T_I, T_putI, T_putZ, F_il4, T_mul, F_il5, T_icge, T_goto, T_ft, F_is6i, F_is6r, F_is6m, F_is7i, F_is7r, F_is7m, F_is8i, F_is8r, F_is8m, F_il8, F_al1, T_getI, F_al3, X_iald, F_al2, F_il7, T_shl, T_or, T_getR, X_aald, F_il6, J_ifeq, T_sub, T_popI, F_inc8i, F_inc8r, F_inc8m, J_ifne, T_shr, T_and, T_ret, c39, c47, ↓reduceIte, TK, lt_run hn, le43, Int.le_refl, Int.lt_irrefl, Option.some.injEq, exists_eq_left', true_and, and_true, if_true, if_false, decide_eq_false_iff_not, decide_eq_true_eq, Nat.reduceAdd, Nat.reduceLeDiff, Nat.reduceLT, Int.reduceAdd, Int.reduceSub, Int.reduceMul, Int.reduceNeg, not_true_eq_false, not_false_eq_true]
          exact ih' _ ⟨e1.trans e2, c2⟩
        · rw [if_neg g, List.append_nil] at ih'
          rw [he, decide_eq_false g] at ih' ⊢
          rw [k46_3]
          simp +decide (maxSteps := 4000000) (disch := omega) only [k46_0, k46_1, k46_2, k46_4, k46_5, k46_6, k46_8, k46_9, k46_r, k46_s, F_al0, T_I, T_putI, T_putZ, F_il4, T_mul, F_il5, T_icge, T_goto, T_ft, F_is6i, F_is6r, F_is6m, F_is7i, F_is7r, F_is7m, F_is8i, F_is8r, F_is8m, F_il8, F_al1, T_getI, F_al3, X_iald, F_al2, F_il7, T_shl, T_or, T_getR, X_aald, F_il6, J_ifeq, T_sub, T_popI, F_inc8i, F_inc8r, F_inc8m, J_ifne, T_shr, T_and, T_ret, c39, c47, x1, y1, z1, f1, f2, f6, a1, u1, f7, zr, Bz_f, kd_96, ln_96, show ¬ D.1 ≤ i by omega, show D'.1 ≤ 8 by omega, ↓reduceIte, TK, lt_run hn, le43, Int.le_refl, Int.lt_irrefl, Option.some.injEq, exists_eq_left', true_and, and_true, if_true, if_false, decide_eq_false_iff_not, decide_eq_true_eq, Nat.reduceAdd, Nat.reduceLeDiff, Nat.reduceLT, Int.reduceAdd, Int.reduceSub, Int.reduceMul, Int.reduceNeg, not_true_eq_false, not_false_eq_true]
          exact ih' _ ⟨e1, c1⟩
    · rintro _ h' ⟨e1, c1⟩
      obtain ⟨⟨f1, f2⟩, f3, f4⟩ := fr e1
      have tr := H.2.2.1 D.1.toNat (by omega)
      rw [k46_3]
      simp +decide (maxSteps := 4000000) (disch := omega) only [k46_0, k46_1, k46_2, k46_4, k46_5, k46_6, k46_8, k46_9, k46_r, k46_s, F_al0, T_I, T_putI, T_putZ, F_il4, T_mul, F_il5, T_icge, T_goto, T_ft, F_is6i, F_is6r, F_is6m, F_is7i, F_is7r, F_is7m, F_is8i, F_is8r, F_is8m, F_il8, F_al1, T_getI, F_al3, X_iald, F_al2, F_il7, T_shl, T_or, T_getR, X_aald, F_il6, J_ifeq, T_sub, T_popI, F_inc8i, F_inc8r, F_inc8m, J_ifne, T_shr, T_and, T_ret, c39, c47, y1, f1, ↓reduceIte, TK, lt_run hn, le43, Int.le_refl, Int.lt_irrefl, Option.some.injEq, exists_eq_left', true_and, and_true, if_true, if_false, decide_eq_false_iff_not, decide_eq_true_eq, Nat.reduceAdd, Nat.reduceLeDiff, Nat.reduceLT, Int.reduceAdd, Int.reduceSub, Int.reduceMul, Int.reduceNeg, not_true_eq_false, not_false_eq_true]
      unfold twF at k
      by_cases g : 2 * a < b
      · rw [if_pos g] at k
        rw [he, decide_eq_true g]
        by_cases g0 : D'.1 ≤ 0
        · rw [k46_7]
          simp +decide (maxSteps := 4000000) (disch := omega) only [k46_0, k46_1, k46_2, k46_4, k46_5, k46_6, k46_8, k46_9, k46_r, k46_s, F_al0, T_I, T_putI, T_putZ, F_il4, T_mul, F_il5, T_icge, T_goto, T_ft, F_is6i, F_is6r, F_is6m, F_is7i, F_is7r, F_is7m, F_is8i, F_is8r, F_is8m, F_il8, F_al1, T_getI, F_al3, X_iald, F_al2, F_il7, T_shl, T_or, T_getR, X_aald, F_il6, J_ifeq, T_sub, T_popI, F_inc8i, F_inc8r, F_inc8m, J_ifne, T_shr, T_and, T_ret, c39, c47, z1, f2, Bz_t, g0, ↓reduceIte, TK, lt_run hn, le43, Int.le_refl, Int.lt_irrefl, Option.some.injEq, exists_eq_left', true_and, and_true, if_true, if_false, decide_eq_false_iff_not, decide_eq_true_eq, Nat.reduceAdd, Nat.reduceLeDiff, Nat.reduceLT, Int.reduceAdd, Int.reduceSub, Int.reduceMul, Int.reduceNeg, not_true_eq_false, not_false_eq_true]
          exact k h' e1 c1
        · rw [k46_7]
          simp +decide (maxSteps := 4000000) (disch := omega) only [k46_0, k46_1, k46_2, k46_4, k46_5, k46_6, k46_8, k46_9, k46_r, k46_s, F_al0, T_I, T_putI, T_putZ, F_il4, T_mul, F_il5, T_icge, T_goto, T_ft, F_is6i, F_is6r, F_is6m, F_is7i, F_is7r, F_is7m, F_is8i, F_is8r, F_is8m, F_il8, F_al1, T_getI, F_al3, X_iald, F_al2, F_il7, T_shl, T_or, T_getR, X_aald, F_il6, J_ifeq, T_sub, T_popI, F_inc8i, F_inc8r, F_inc8m, J_ifne, T_shr, T_and, T_ret, c39, c47, z1, f2, Bz_t, g0, ↓reduceIte, TK, lt_run hn, le43, Int.le_refl, Int.lt_irrefl, Option.some.injEq, exists_eq_left', true_and, and_true, if_true, if_false, decide_eq_false_iff_not, decide_eq_true_eq, Nat.reduceAdd, Nat.reduceLeDiff, Nat.reduceLT, Int.reduceAdd, Int.reduceSub, Int.reduceMul, Int.reduceNeg, not_true_eq_false, not_false_eq_true]
          exact k h' e1 c1
      · rw [if_neg g] at k
        rw [he, decide_eq_false g]
        have rb := twR_b (D := D) (D' := D') (a := a) (b := b) R'.1 H g D.1.toNat (by omega)
        refine T_for (σ := Unit) (fun j _ => [.ref t, .ref p, .ref q, .ref 96, .int (J a), .int (J b), .int (Bz false), .int (J (T D.1.toNat)), .int (J j)]) (fun j _ h' => Ef (Sb t) h h' ∧ DC h' t ρ (lsD (twS D' (T D.1.toNat) (twR D D' Z a b D.1.toNat) j.toNat))) 0 D'.1 ?_ ?_ 0 () h' (by omega) (by omega) ⟨e1, c1⟩
        · rintro j _ h' j0 j1 ⟨e1, c1⟩ ih
          obtain ⟨⟨f1, f2⟩, f3, f4⟩ := fr e1
          have f5 := f4 j j0 j1
          have a1 := (Pq.1 j.toNat (by omega)).1
          have A := Pq.sb Bq (s := j.toNat) (by omega)
          have s1 := Pq.r (s := j.toNat) (by omega)
          have u1 := A.x E F
          have u2 := A.r
          have f7 := f5.1.2
          have r3 := (R'.2 j).2.1
          have sb := twS_b (D' := D') (t := T D.1.toNat) (l := twR D D' Z a b D.1.toNat) j.toNat
          have es := twS_s (D' := D') (t := T D.1.toNat) (l := twR D D' Z a b D.1.toNat) j0
          have bt := mbt (S := T D.1.toNat) (j := j) (by omega) (by omega)
          have ih' := ih ()
          try dsimp only at ih'
          rw [es] at ih'
          by_cases g1 : maB (T D.1.toNat) j = true
          · rw [if_pos g1] at bt ih'
            rw [List.append_nil] at ih'
            rw [k46_7]
            simp +decide (maxSteps := 4000000) (disch := omega) only [k46_0, k46_1, k46_2, k46_4, k46_5, k46_6, k46_8, k46_9, k46_r, k46_s, F_al0, T_I, T_putI, T_putZ, F_il4, T_mul, F_il5, T_icge, T_goto, T_ft, F_is6i, F_is6r, F_is6m, F_is7i, F_is7r, F_is7m, F_is8i, F_is8r, F_is8m, F_il8, F_al1, T_getI, F_al3, X_iald, F_al2, F_il7, T_shl, T_or, T_getR, X_aald, F_il6, J_ifeq, T_sub, T_popI, F_inc8i, F_inc8r, F_inc8m, J_ifne, T_shr, T_and, T_ret, c39, c47, z1, f2, Bz_f, bt, show ¬ D'.1 ≤ j by omega, ↓reduceIte, TK, lt_run hn, le43, Int.le_refl, Int.lt_irrefl, Option.some.injEq, exists_eq_left', true_and, and_true, if_true, if_false, decide_eq_false_iff_not, decide_eq_true_eq, Nat.reduceAdd, Nat.reduceLeDiff, Nat.reduceLT, Int.reduceAdd, Int.reduceSub, Int.reduceMul, Int.reduceNeg, not_true_eq_false, not_false_eq_true]
            exact ih' _ ⟨e1, c1⟩
          · rw [if_neg g1] at bt ih'
            have fn := maF_n j0 j1 (by simpa using g1)
            rw [k46_7]
            simp +decide (maxSteps := 4000000) (disch := omega) only [k46_0, k46_1, k46_2, k46_4, k46_5, k46_6, k46_8, k46_9, k46_r, k46_s, F_al0, T_I, T_putI, T_putZ, F_il4, T_mul, F_il5, T_icge, T_goto, T_ft, F_is6i, F_is6r, F_is6m, F_is7i, F_is7r, F_is7m, F_is8i, F_is8r, F_is8m, F_il8, F_al1, T_getI, F_al3, X_iald, F_al2, F_il7, T_shl, T_or, T_getR, X_aald, F_il6, J_ifeq, T_sub, T_popI, F_inc8i, F_inc8r, F_inc8m, J_ifne, T_shr, T_and, T_ret, c39, c47, x1, z1, f2, a1, u1, f7, Bz_f, bt, show ¬ D'.1 ≤ j by omega, ↓reduceIte, TK, lt_run hn, le43, Int.le_refl, Int.lt_irrefl, Option.some.injEq, exists_eq_left', true_and, and_true, if_true, if_false, decide_eq_false_iff_not, decide_eq_true_eq, Nat.reduceAdd, Nat.reduceLeDiff, Nat.reduceLT, Int.reduceAdd, Int.reduceSub, Int.reduceMul, Int.reduceNeg, not_true_eq_false, not_false_eq_true]
            refine w39a F hn B P A (by omega) (by omega) c1 f5 (R'.2 j) (fun h2 e2 c2 => ?_)
            simp +decide (maxSteps := 4000000) (disch := omega) only [k46_0, k46_1, k46_2, k46_4, k46_5, k46_6, k46_8, k46_9, k46_r, k46_s, F_al0, T_I, T_putI, T_putZ, F_il4, T_mul, F_il5, T_icge, T_goto, T_ft, F_is6i, F_is6r, F_is6m, F_is7i, F_is7r, F_is7m, F_is8i, F_is8r, F_is8m, F_il8, F_al1, T_getI, F_al3, X_iald, F_al2, F_il7, T_shl, T_or, T_getR, X_aald, F_il6, J_ifeq, T_sub, T_popI, F_inc8i, F_inc8r, F_inc8m, J_ifne, T_shr, T_and, T_ret, c39, c47, ↓reduceIte, TK, lt_run hn, le43, Int.le_refl, Int.lt_irrefl, Option.some.injEq, exists_eq_left', true_and, and_true, if_true, if_false, decide_eq_false_iff_not, decide_eq_true_eq, Nat.reduceAdd, Nat.reduceLeDiff, Nat.reduceLT, Int.reduceAdd, Int.reduceSub, Int.reduceMul, Int.reduceNeg, not_true_eq_false, not_false_eq_true]
            exact ih' _ ⟨e1.trans e2, c2⟩
        · rintro _ h' ⟨e1, c1⟩
          obtain ⟨⟨f1, f2⟩, f3, f4⟩ := fr e1
          rw [k46_7]
          simp +decide (maxSteps := 4000000) (disch := omega) only [k46_0, k46_1, k46_2, k46_4, k46_5, k46_6, k46_8, k46_9, k46_r, k46_s, F_al0, T_I, T_putI, T_putZ, F_il4, T_mul, F_il5, T_icge, T_goto, T_ft, F_is6i, F_is6r, F_is6m, F_is7i, F_is7r, F_is7m, F_is8i, F_is8r, F_is8m, F_il8, F_al1, T_getI, F_al3, X_iald, F_al2, F_il7, T_shl, T_or, T_getR, X_aald, F_il6, J_ifeq, T_sub, T_popI, F_inc8i, F_inc8r, F_inc8m, J_ifne, T_shr, T_and, T_ret, c39, c47, z1, f2, ↓reduceIte, TK, lt_run hn, le43, Int.le_refl, Int.lt_irrefl, Option.some.injEq, exists_eq_left', true_and, and_true, if_true, if_false, decide_eq_false_iff_not, decide_eq_true_eq, Nat.reduceAdd, Nat.reduceLeDiff, Nat.reduceLT, Int.reduceAdd, Int.reduceSub, Int.reduceMul, Int.reduceNeg, not_true_eq_false, not_false_eq_true]
          exact k h' e1 c1
  by_cases g : 2 * a < b
  · simp +decide (maxSteps := 4000000) (disch := omega) only [k46_0, k46_1, k46_2, k46_4, k46_5, k46_6, k46_8, k46_9, k46_r, k46_s, F_al0, T_I, T_putI, T_putZ, F_il4, T_mul, F_il5, T_icge, T_goto, T_ft, F_is6i, F_is6r, F_is6m, F_is7i, F_is7r, F_is7m, F_is8i, F_is8r, F_is8m, F_il8, F_al1, T_getI, F_al3, X_iald, F_al2, F_il7, T_shl, T_or, T_getR, X_aald, F_il6, J_ifeq, T_sub, T_popI, F_inc8i, F_inc8r, F_inc8m, J_ifne, T_shr, T_and, T_ret, c39, c47, x1, g, show ¬ b ≤ 2 * a by omega, ↓reduceIte, TK, lt_run hn, le43, Int.le_refl, Int.lt_irrefl, Option.some.injEq, exists_eq_left', true_and, and_true, if_true, if_false, decide_eq_false_iff_not, decide_eq_true_eq, Nat.reduceAdd, Nat.reduceLeDiff, Nat.reduceLT, Int.reduceAdd, Int.reduceSub, Int.reduceMul, Int.reduceNeg, not_true_eq_false, not_false_eq_true]
    exact main true (decide_eq_true g).symm
  · simp +decide (maxSteps := 4000000) (disch := omega) only [k46_0, k46_1, k46_2, k46_4, k46_5, k46_6, k46_8, k46_9, k46_r, k46_s, F_al0, T_I, T_putI, T_putZ, F_il4, T_mul, F_il5, T_icge, T_goto, T_ft, F_is6i, F_is6r, F_is6m, F_is7i, F_is7r, F_is7m, F_is8i, F_is8r, F_is8m, F_il8, F_al1, T_getI, F_al3, X_iald, F_al2, F_il7, T_shl, T_or, T_getR, X_aald, F_il6, J_ifeq, T_sub, T_popI, F_inc8i, F_inc8r, F_inc8m, J_ifne, T_shr, T_and, T_ret, c39, c47, x1, g, show b ≤ 2 * a by omega, ↓reduceIte, TK, lt_run hn, le43, Int.le_refl, Int.lt_irrefl, Option.some.injEq, exists_eq_left', true_and, and_true, if_true, if_false, decide_eq_false_iff_not, decide_eq_true_eq, Nat.reduceAdd, Nat.reduceLeDiff, Nat.reduceLT, Int.reduceAdd, Int.reduceSub, Int.reduceMul, Int.reduceNeg, not_true_eq_false, not_false_eq_true]
    exact main false (decide_eq_false g).symm
end TC
