/-! match: the two tables, and why they agree where it counts -/
def maB (S j : Int) : Bool := S.toNat.testBit j.toNat
def maA (S j : Int) : Int := ((S.toNat ||| 1 <<< j.toNat : Nat) : Int)
def maW (b : Int) : Int := ((2 ^ b.toNat : Nat) : Int)
/-- how many of b are not in S -/
def maF (S : Int) : Nat → Int
  | 0 => 0
  | j + 1 => maF S j + (if maB S j = true then 0 else 1)
/-- the class's costs -/
def maC (c : Int → Int → Int) (a b : Int) (f g : Int → Int) (i j : Int) : Nat → Int
  | 0 => c i j
  | k + 1 => if (f k < a ∧ g k < b) ∧ i = f k ∧ j ≠ g k then 1000000 else maC c a b f g i j k
/-- what may be paired -/
def maP (a b : Int) (f g : Int → Int) (i j : Int) : Nat → Bool
  | 0 => true
  | k + 1 => if f k < a ∧ g k < b then maP a b f g i j k && (decide (f k = i) == decide (g k = j)) else maP a b f g i j k
def maM (v : Int → Int) (S z : Int) : Nat → Int
  | 0 => z
  | j + 1 => if maB S j = true then maM v S z j else (if v j < maM v S z j then v j else maM v S z j)
def maN (v : Int → Int) (ok : Int → Bool) : Nat → Int
  | 0 => 1000000
  | j + 1 => if ok j = true then (if v j < maN v ok j then v j else maN v ok j) else maN v ok j
def maO (b S j : Int) : Bool := decide (j = 8) || (decide (j < b) && !maB S j)
def maV (c : Int → Int → Int) (t : Int → Int) (i S j : Int) : Int := c i j + t (if j = 8 then S else maA S j)
def maT (C : Int → Int → Int) (a b : Int) : Nat → Int → Int
  | 0, S => 400 * maF S b.toNat
  | k + 1, S => maM (maV C (maT C a b k) (a - (k + 1)) S) S (maV C (maT C a b k) (a - (k + 1)) S 8) b.toNat
def maR (c : Int → Int → Int) (P : Int → Int → Bool) (a b : Int) : Nat → Int → Int
  | 0, S => 400 * maF S b.toNat
  | k + 1, S => maN (maV c (maR c P a b k) (a - (k + 1)) S) (fun j => maO b S j && P (a - (k + 1)) j) 9
def maD (ok : Int → Bool) : Nat → Int → Int
  | 0, p => p
  | j + 1, p => maD ok j (if ok j = true then (j : Int) else p)
def maX (C : Int → Int → Int) (a b i S : Int) : Int := maD (fun j => !maB S j && decide (maV C (maT C a b (a - i - 1).toNat) i S j = maT C a b (a - i).toNat S)) b.toNat 8
def maY (c : Int → Int → Int) (P : Int → Int → Bool) (a b i S : Int) : Int := maD (fun j => (maO b S j && P i j) && decide (maV c (maR c P a b (a - i - 1).toNat) i S j = maR c P a b (a - i).toNat S)) 9 (-1)
/-- the set ahead of a row -/
def maS (x : Int → Int → Int) : Nat → Int
  | 0 => 0
  | i + 1 => if x i (maS x i) < 8 then maA (maS x i) (x i (maS x i)) else maS x i
section MA
variable {c : Int → Int → Int} {a b m : Int} {f g : Int → Int}
theorem bw_t : ∀ n : Nat, n < 9 → ∀ S : Nat, S < 2 ^ n → ∀ j : Nat, j < n → S ||| 1 <<< j < 2 ^ n := by decide +kernel
theorem w_t : ∀ n : Nat, n < 9 → 1 ≤ 2 ^ n ∧ 2 ^ n ≤ 256 := by decide +kernel
theorem maW_r (hb : 0 ≤ b ∧ b ≤ 8) : 1 ≤ maW b ∧ maW b ≤ 256 := by
  have := w_t b.toNat (by omega)
  unfold maW
  omega
theorem maA_r {S j : Int} (hb : 0 ≤ b ∧ b ≤ 8) (hS : 0 ≤ S ∧ S < maW b) (hj : 0 ≤ j ∧ j < b) : 0 ≤ maA S j ∧ maA S j < maW b := by
  have := bw_t b.toNat (by omega) S.toNat (by unfold maW at hS; omega) j.toNat (by omega)
  unfold maA maW
  omega
theorem maA_8 {S j : Int} (hS : 0 ≤ S ∧ S < 256) (hj : 0 ≤ j ∧ j < 8) : 0 ≤ maA S j ∧ maA S j < 256 := maA_r (b := 8) (by omega) hS hj
theorem maB_A {S j i : Int} (hS : 0 ≤ S ∧ S < 256) (hj : 0 ≤ j ∧ j < 8) (hi : 0 ≤ i ∧ i < 8) : maB (maA S j) i = (maB S i || decide (i = j)) := by
  have := tb_t S.toNat (by omega) j.toNat (by omega) i.toNat (by omega)
  unfold maB maA
  rw [Int.toNat_natCast, this]
  congr 1
  rw [Bool.eq_iff_iff, Nat.beq_eq, decide_eq_true_eq]
  omega
theorem maB_0 (j : Int) : maB 0 j = false := by
  unfold maB
  exact Nat.zero_testBit _
theorem maF_r (S : Int) : ∀ k : Nat, 0 ≤ maF S k ∧ maF S k ≤ k := by
  intro k
  induction k with
  | zero => exact ⟨Int.le_refl _, Int.le_refl _⟩
  | succ k ih =>
    show 0 ≤ maF S k + _ ∧ maF S k + _ ≤ _
    split <;> omega
theorem maM_s {v : Int → Int} {S z j : Int} (h : 0 ≤ j) : maM v S z (j + 1).toNat = if maB S j = true then maM v S z j.toNat else (if v j < maM v S z j.toNat then v j else maM v S z j.toNat) := by
  rw [show (j + 1).toNat = j.toNat + 1 by omega]
  show (if maB S (j.toNat : Int) = true then _ else (if v (j.toNat : Int) < _ then v (j.toNat : Int) else _)) = _
  rw [Int.toNat_of_nonneg h]
theorem maN_s {v : Int → Int} {ok : Int → Bool} {j : Int} (h : 0 ≤ j) : maN v ok (j + 1).toNat = if ok j = true then (if v j < maN v ok j.toNat then v j else maN v ok j.toNat) else maN v ok j.toNat := by
  rw [show (j + 1).toNat = j.toNat + 1 by omega]
  show (if ok (j.toNat : Int) = true then (if v (j.toNat : Int) < _ then v (j.toNat : Int) else _) else _) = _
  rw [Int.toNat_of_nonneg h]
theorem maD_s {ok : Int → Bool} {j p : Int} (h : 0 ≤ j) : maD ok (j + 1).toNat p = maD ok j.toNat (if ok j = true then j else p) := by
  rw [show (j + 1).toNat = j.toNat + 1 by omega]
  show maD ok j.toNat (if ok (j.toNat : Int) = true then (j.toNat : Int) else p) = _
  rw [Int.toNat_of_nonneg h]
theorem maT_s {C : Int → Int → Int} {i : Int} (h : 0 ≤ i ∧ i < a) (S : Int) : maT C a b (a - i).toNat S = maM (maV C (maT C a b (a - i - 1).toNat) i S) S (maV C (maT C a b (a - i - 1).toNat) i S 8) b.toNat := by
  rw [show (a - i).toNat = (a - i - 1).toNat + 1 by omega]
  show maM (maV C _ (a - (((a - i - 1).toNat : Int) + 1)) S) S (maV C _ (a - (((a - i - 1).toNat : Int) + 1)) S 8) b.toNat = _
  rw [show a - (((a - i - 1).toNat : Int) + 1) = i by omega]
theorem maR_s {P : Int → Int → Bool} {i : Int} (h : 0 ≤ i ∧ i < a) (S : Int) : maR c P a b (a - i).toNat S = maN (maV c (maR c P a b (a - i - 1).toNat) i S) (fun j => maO b S j && P i j) 9 := by
  rw [show (a - i).toNat = (a - i - 1).toNat + 1 by omega]
  show maN (maV c _ (a - (((a - i - 1).toNat : Int) + 1)) S) (fun j => maO b S j && P (a - (((a - i - 1).toNat : Int) + 1)) j) 9 = _
  rw [show a - (((a - i - 1).toNat : Int) + 1) = i by omega]
theorem maM_le (v : Int → Int) (S z : Int) : ∀ k : Nat, maM v S z k ≤ z ∧ ∀ j : Int, 0 ≤ j → j < k → maB S j = false → maM v S z k ≤ v j := by
  intro k
  induction k with
  | zero => exact ⟨Int.le_refl _, fun j h1 h2 => by omega⟩
  | succ k ih =>
    have e : maM v S z (k + 1) = if maB S k = true then maM v S z k else (if v k < maM v S z k then v k else maM v S z k) := rfl
    rw [e]
    by_cases q : maB S k = true
    · rw [if_pos q]
      refine ⟨ih.1, fun j h1 h2 h3 => ih.2 j h1 ?_ h3⟩
      by_cases g : j = k
      · rw [g, q] at h3
        cases h3
      · omega
    · rw [if_neg q]
      by_cases w : v k < maM v S z k
      · rw [if_pos w]
        refine ⟨by have := ih.1; omega, fun j h1 h2 h3 => ?_⟩
        by_cases g : j = k
        · rw [g]
          exact Int.le_refl _
        · have := ih.2 j h1 (by omega) h3
          omega
      · rw [if_neg w]
        refine ⟨ih.1, fun j h1 h2 h3 => ?_⟩
        by_cases g : j = k
        · rw [g]
          omega
        · exact ih.2 j h1 (by omega) h3
theorem maM_at (v : Int → Int) (S z : Int) : ∀ k : Nat, maM v S z k = z ∨ ∃ j : Int, (0 ≤ j ∧ j < k) ∧ maB S j = false ∧ maM v S z k = v j := by
  intro k
  induction k with
  | zero => exact Or.inl rfl
  | succ k ih =>
    have e : maM v S z (k + 1) = if maB S k = true then maM v S z k else (if v k < maM v S z k then v k else maM v S z k) := rfl
    have old : maM v S z (k + 1) = maM v S z k → maM v S z (k + 1) = z ∨ ∃ j : Int, (0 ≤ j ∧ j < (k + 1 : Nat)) ∧ maB S j = false ∧ maM v S z (k + 1) = v j := fun q => by
      rw [q]
      rcases ih with ih | ⟨j, h1, h2, h3⟩
      · exact Or.inl ih
      · exact Or.inr ⟨j, by omega, h2, h3⟩
    by_cases q : maB S k = true
    · rw [if_pos q] at e
      exact old e
    · rw [if_neg q] at e
      by_cases w : v k < maM v S z k
      · rw [if_pos w] at e
        exact Or.inr ⟨k, by omega, by simpa using q, e⟩
      · rw [if_neg w] at e
        exact old e
theorem maN_le (v : Int → Int) (ok : Int → Bool) : ∀ k : Nat, maN v ok k ≤ 1000000 ∧ ∀ j : Int, 0 ≤ j → j < k → ok j = true → maN v ok k ≤ v j := by
  intro k
  induction k with
  | zero => exact ⟨Int.le_refl _, fun j h1 h2 => by omega⟩
  | succ k ih =>
    have e : maN v ok (k + 1) = if ok k = true then (if v k < maN v ok k then v k else maN v ok k) else maN v ok k := rfl
    rw [e]
    by_cases q : ok k = true
    · rw [if_pos q]
      by_cases w : v k < maN v ok k
      · rw [if_pos w]
        refine ⟨by have := ih.1; omega, fun j h1 h2 h3 => ?_⟩
        by_cases g : j = k
        · rw [g]
          exact Int.le_refl _
        · have := ih.2 j h1 (by omega) h3
          omega
      · rw [if_neg w]
        refine ⟨ih.1, fun j h1 h2 h3 => ?_⟩
        by_cases g : j = k
        · rw [g]
          omega
        · exact ih.2 j h1 (by omega) h3
    · rw [if_neg q]
      refine ⟨ih.1, fun j h1 h2 h3 => ih.2 j h1 ?_ h3⟩
      by_cases g : j = k
      · rw [g] at h3
        exact absurd h3 q
      · omega
theorem maN_at (v : Int → Int) (ok : Int → Bool) : ∀ k : Nat, maN v ok k = 1000000 ∨ ∃ j : Int, (0 ≤ j ∧ j < k) ∧ ok j = true ∧ maN v ok k = v j := by
  intro k
  induction k with
  | zero => exact Or.inl rfl
  | succ k ih =>
    have e : maN v ok (k + 1) = if ok k = true then (if v k < maN v ok k then v k else maN v ok k) else maN v ok k := rfl
    have old : maN v ok (k + 1) = maN v ok k → maN v ok (k + 1) = 1000000 ∨ ∃ j : Int, (0 ≤ j ∧ j < (k + 1 : Nat)) ∧ ok j = true ∧ maN v ok (k + 1) = v j := fun q => by
      rw [q]
      rcases ih with ih | ⟨j, h1, h2, h3⟩
      · exact Or.inl ih
      · exact Or.inr ⟨j, by omega, h2, h3⟩
    by_cases q : ok k = true
    · rw [if_pos q] at e
      by_cases w : v k < maN v ok k
      · rw [if_pos w] at e
        exact Or.inr ⟨k, by omega, q, e⟩
      · rw [if_neg w] at e
        exact old e
    · rw [if_neg q] at e
      exact old e
theorem maD_at (ok : Int → Bool) : ∀ (k : Nat) (p : Int), (∃ j : Int, (0 ≤ j ∧ j < k) ∧ ok j = true ∧ (∀ i, 0 ≤ i → i < j → ok i = false) ∧ maD ok k p = j) ∨ ((∀ j : Int, 0 ≤ j → j < k → ok j = false) ∧ maD ok k p = p) := by
  intro k
  induction k with
  | zero => exact fun p => Or.inr ⟨fun j h1 h2 => by omega, rfl⟩
  | succ k ih =>
    intro p
    have e : maD ok (k + 1) p = maD ok k (if ok k = true then (k : Int) else p) := rfl
    rcases ih (if ok k = true then (k : Int) else p) with ⟨j, h1, h2, h3, h4⟩ | ⟨h1, h2⟩
    · exact Or.inl ⟨j, by omega, h2, h3, e.trans h4⟩
    · by_cases q : ok k = true
      · rw [if_pos q] at h2 e
        exact Or.inl ⟨k, by omega, q, fun i i0 i1 => h1 i i0 i1, e.trans h2⟩
      · rw [if_neg q] at h2 e
        refine Or.inr ⟨fun j j0 j1 => ?_, e.trans h2⟩
        by_cases g : j = k
        · rw [g]
          simpa using q
        · exact h1 j j0 (by omega)
/-- a mark that counts -/
def maK (a b m : Int) (f g : Int → Int) (i j : Int) : Prop := ∃ k : Int, (0 ≤ k ∧ k < m) ∧ (f k < a ∧ g k < b) ∧ f k = i ∧ g k = j
theorem maC_1 (i j : Int) : ∀ k : Nat, (∃ j', maK a b k f g i j' ∧ j' ≠ j) → maC c a b f g i j k = 1000000 := by
  intro k
  induction k with
  | zero => rintro ⟨j', ⟨k, h1, _⟩, _⟩; omega
  | succ k ih =>
    rintro ⟨j', ⟨q, h1, h2, h3, h4⟩, h5⟩
    show (if _ then _ else _) = _
    by_cases w : (f k < a ∧ g k < b) ∧ i = f k ∧ j ≠ g k
    · rw [if_pos w]
    · rw [if_neg w]
      refine ih ⟨j', ⟨q, ⟨h1.1, ?_⟩, h2, h3, h4⟩, h5⟩
      by_cases e : q = k
      · subst e
        exact absurd ⟨h2, h3.symm, fun z => h5 (h4.symm.trans z.symm)⟩ w
      · omega
theorem maC_0 (i j : Int) : ∀ k : Nat, (¬ ∃ j', maK a b k f g i j' ∧ j' ≠ j) → maC c a b f g i j k = c i j := by
  intro k
  induction k with
  | zero => exact fun _ => rfl
  | succ k ih =>
    intro n
    show (if _ then _ else _) = _
    by_cases w : (f k < a ∧ g k < b) ∧ i = f k ∧ j ≠ g k
    · exact absurd ⟨g k, ⟨k, by omega, w.1, w.2.1.symm, rfl⟩, fun z => w.2.2 z.symm⟩ n
    · rw [if_neg w]
      refine ih (fun ⟨j', ⟨q, h1, h2⟩, h5⟩ => n ⟨j', ⟨q, by omega, h2⟩, h5⟩)
theorem maC_r (hc : ∀ i j, 0 ≤ c i j ∧ c i j ≤ 7000) (i j : Int) : ∀ k : Nat, 0 ≤ maC c a b f g i j k ∧ maC c a b f g i j k ≤ 1000000 := by
  intro k
  induction k with
  | zero =>
    have := hc i j
    show 0 ≤ c i j ∧ c i j ≤ 1000000
    omega
  | succ k ih =>
    have e : maC c a b f g i j (k + 1) = if (f k < a ∧ g k < b) ∧ i = f k ∧ j ≠ g k then 1000000 else maC c a b f g i j k := rfl
    rw [e]
    split
    · omega
    · exact ih
theorem maP_i (i j : Int) : ∀ k : Nat, maP a b f g i j k = true ↔ ∀ i' j', maK a b k f g i' j' → (i' = i ↔ j' = j) := by
  intro k
  induction k with
  | zero => exact ⟨fun _ i' j' ⟨k, h1, _⟩ => by omega, fun _ => rfl⟩
  | succ k ih =>
    have sp : (∀ i' j', maK a b (k + 1 : Nat) f g i' j' → (i' = i ↔ j' = j)) ↔ (∀ i' j', maK a b k f g i' j' → (i' = i ↔ j' = j)) ∧ ((f k < a ∧ g k < b) → (f k = i ↔ g k = j)) := by
      constructor
      · exact fun h => ⟨fun i' j' ⟨q, h1, h2⟩ => h i' j' ⟨q, by omega, h2⟩, fun w => h _ _ ⟨k, by omega, w, rfl, rfl⟩⟩
      · rintro ⟨h1, h2⟩ i' j' ⟨q, h3, h4, h5, h6⟩
        by_cases e : q = k
        · subst e
          rw [← h5, ← h6]
          exact h2 h4
        · exact h1 i' j' ⟨q, by omega, h4, h5, h6⟩
    rw [sp]
    show (if _ then _ else _) = true ↔ _
    by_cases w : f k < a ∧ g k < b
    · rw [if_pos w, Bool.and_eq_true, ih, beq_iff_eq, decide_eq_decide]
      exact ⟨fun h => ⟨h.1, fun _ => h.2⟩, fun h => ⟨h.1, h.2 w⟩⟩
    · rw [if_neg w, ih]
      exact ⟨fun h => ⟨h, fun z => absurd z w⟩, fun h => h.1⟩
end MA
