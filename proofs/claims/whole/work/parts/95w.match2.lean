/-! match: the same sums, the same partners -/
section MA2
variable {c : Int → Int → Int} {a b m : Int} {f g : Int → Int}
/-- what is asked of costs and marks -/
def maH (c : Int → Int → Int) (a b m : Int) (f g : Int → Int) : Prop := (0 ≤ a ∧ a ≤ 8) ∧ (0 ≤ b ∧ b ≤ 8) ∧ (0 ≤ m ∧ m ≤ 4) ∧ (∀ i j, 0 ≤ c i j ∧ c i j ≤ 7000) ∧ (∀ i, 0 ≤ f i ∧ f i ≤ 7) ∧ (∀ i, 0 ≤ g i ∧ g i ≤ 7) ∧ ∀ i j, 0 ≤ i → i < j → j < m → f i ≠ f j ∧ g i ≠ g j
abbrev maCC (c : Int → Int → Int) (a b m : Int) (f g : Int → Int) : Int → Int → Int := fun i j => maC c a b f g i j m.toNat
abbrev maPP (a b m : Int) (f g : Int → Int) : Int → Int → Bool := fun i j => maP a b f g i j m.toNat
theorem maK_1 (H : maH c a b m f g) {i j i' j' : Int} (h1 : maK a b m f g i j) (h2 : maK a b m f g i' j') : i = i' ↔ j = j' := by
  obtain ⟨k, h3, h4, h5, h6⟩ := h1
  obtain ⟨q, h7, h8, h9, h0⟩ := h2
  rcases Int.lt_trichotomy k q with w | w | w
  · have := H.2.2.2.2.2.2 k q h3.1 w h7.2
    omega
  · subst w
    omega
  · have := H.2.2.2.2.2.2 q k h7.1 w h3.2
    omega
theorem maK_r (H : maH c a b m f g) {i j : Int} (h1 : maK a b m f g i j) : (0 ≤ i ∧ i < a) ∧ 0 ≤ j ∧ j < b := by
  obtain ⟨k, h3, h4, h5, h6⟩ := h1
  have := H.2.2.2.2.1 k
  have := H.2.2.2.2.2.1 k
  omega
theorem maK_n (H : maH c a b m f g) (i j : Int) : maK a b (m.toNat : Int) f g i j ↔ maK a b m f g i j := by
  rw [Int.toNat_of_nonneg H.2.2.1.1]
theorem maCC_1 (H : maH c a b m f g) {i j j' : Int} (h : maK a b m f g i j') (e : j' ≠ j) : maCC c a b m f g i j = 1000000 := maC_1 i j m.toNat ⟨j', (maK_n H i j').mpr h, e⟩
theorem maCC_0 (H : maH c a b m f g) {i j : Int} (h : ∀ j', maK a b m f g i j' → j' = j) : maCC c a b m f g i j = c i j := maC_0 i j m.toNat (fun ⟨j', w, e⟩ => e (h j' ((maK_n H i j').mp w)))
theorem maCC_r (H : maH c a b m f g) (i j : Int) : 0 ≤ maCC c a b m f g i j ∧ maCC c a b m f g i j ≤ 1000000 := maC_r H.2.2.2.1 i j m.toNat
theorem maPP_i (H : maH c a b m f g) (i j : Int) : maPP a b m f g i j = true ↔ ∀ i' j', maK a b m f g i' j' → (i' = i ↔ j' = j) := by
  refine (maP_i i j m.toNat).trans ?_
  rw [Int.toNat_of_nonneg H.2.2.1.1]
theorem maT_r (H : maH c a b m f g) : ∀ (k : Nat) (S : Int), 0 ≤ maT (maCC c a b m f g) a b k S ∧ maT (maCC c a b m f g) a b k S ≤ 3200 + 1000000 * k := by
  intro k
  induction k with
  | zero =>
    intro S
    have := maF_r S b.toNat
    have := H.2.1
    show 0 ≤ 400 * maF S b.toNat ∧ 400 * maF S b.toNat ≤ _
    omega
  | succ k ih =>
    intro S
    have e : maT (maCC c a b m f g) a b (k + 1) S = maM (maV (maCC c a b m f g) (maT (maCC c a b m f g) a b k) (a - (k + 1)) S) S (maV (maCC c a b m f g) (maT (maCC c a b m f g) a b k) (a - (k + 1)) S 8) b.toNat := rfl
    have l := (maM_le (maV (maCC c a b m f g) (maT (maCC c a b m f g) a b k) (a - (k + 1)) S) S (maV (maCC c a b m f g) (maT (maCC c a b m f g) a b k) (a - (k + 1)) S 8) b.toNat).1
    have v : ∀ j, 0 ≤ maV (maCC c a b m f g) (maT (maCC c a b m f g) a b k) (a - (k + 1)) S j ∧ maV (maCC c a b m f g) (maT (maCC c a b m f g) a b k) (a - (k + 1)) S j ≤ 1000000 + (3200 + 1000000 * k) := fun j => by
      have := maCC_r H (a - (k + 1)) j
      have := ih (if j = 8 then S else maA S j)
      unfold maV
      omega
    rw [e]
    have v8 := v 8
    refine ⟨?_, by omega⟩
    rcases maM_at (maV (maCC c a b m f g) (maT (maCC c a b m f g) a b k) (a - (k + 1)) S) S (maV (maCC c a b m f g) (maT (maCC c a b m f g) a b k) (a - (k + 1)) S 8) b.toNat with q | ⟨j, _, _, q⟩
    · rw [q]
      exact v8.1
    · rw [q]
      exact (v j).1
theorem maR_r (H : maH c a b m f g) {P : Int → Int → Bool} : ∀ (k : Nat) (S : Int), 0 ≤ maR c P a b k S ∧ maR c P a b k S ≤ 1000000 := by
  intro k
  induction k with
  | zero =>
    intro S
    have := maF_r S b.toNat
    have := H.2.1
    show 0 ≤ 400 * maF S b.toNat ∧ 400 * maF S b.toNat ≤ _
    omega
  | succ k ih =>
    intro S
    have e : maR c P a b (k + 1) S = maN (maV c (maR c P a b k) (a - (k + 1)) S) (fun j => maO b S j && P (a - (k + 1)) j) 9 := rfl
    rw [e]
    refine ⟨?_, (maN_le _ _ 9).1⟩
    rcases maN_at (maV c (maR c P a b k) (a - (k + 1)) S) (fun j => maO b S j && P (a - (k + 1)) j) 9 with q | ⟨j, _, _, q⟩
    · rw [q]
      omega
    · rw [q]
      have := H.2.2.2.1 (a - (k + 1)) j
      have := ih (if j = 8 then S else maA S j)
      unfold maV
      omega
theorem maV_C (H : maH c a b m f g) (k : Nat) (i S j : Int) : 0 ≤ maV (maCC c a b m f g) (maT (maCC c a b m f g) a b k) i S j ∧ maV (maCC c a b m f g) (maT (maCC c a b m f g) a b k) i S j ≤ 4200 + 1000000 * (k + 1) := by
  have := maCC_r H i j
  have := maT_r H k (if j = 8 then S else maA S j)
  unfold maV
  omega
theorem maV_R (H : maH c a b m f g) {P : Int → Int → Bool} (k : Nat) (i S j : Int) : 0 ≤ maV c (maR c P a b k) i S j ∧ maV c (maR c P a b k) i S j ≤ 1007000 := by
  have := H.2.2.2.1 i j
  have := maR_r H (P := P) k (if j = 8 then S else maA S j)
  unfold maV
  omega
/-- no way on -/
theorem maT_d (H : maH c a b m f g) : ∀ (k : Nat) (S : Int), (k : Int) ≤ a → 0 ≤ S ∧ S < maW b → (∃ i j, maK a b m f g i j ∧ a - k ≤ i ∧ maB S j = true) → 1000000 ≤ maT (maCC c a b m f g) a b k S := by
  intro k
  have w := maW_r H.2.1
  have hb := H.2.1
  induction k with
  | zero =>
    rintro S _ _ ⟨i, j, h1, h2, _⟩
    have := (maK_r H h1).1
    omega
  | succ k ih =>
    rintro S h0 hS ⟨i, j, h1, h2, h3⟩
    have r := maK_r H h1
    have e : maT (maCC c a b m f g) a b (k + 1) S = maM (maV (maCC c a b m f g) (maT (maCC c a b m f g) a b k) (a - (k + 1)) S) S (maV (maCC c a b m f g) (maT (maCC c a b m f g) a b k) (a - (k + 1)) S 8) b.toNat := rfl
    rw [e]
    have key : ∀ q : Int, (0 ≤ q ∧ q < b ∧ maB S q = false) ∨ q = 8 → 1000000 ≤ maV (maCC c a b m f g) (maT (maCC c a b m f g) a b k) (a - (k + 1)) S q := fun q hq => by
      have c1 := maCC_r H (a - (k + 1)) q
      have t1 := maT_r H k (if q = 8 then S else maA S q)
      unfold maV
      by_cases g1 : i = a - (k + 1)
      · have c2 := maCC_1 H (i := i) (j := q) h1 (fun z => by
          rcases hq with hq | hq
          · rw [← z, h3] at hq
            cases hq.2.2
          · omega)
        rw [← g1]
        omega
      · have := ih (if q = 8 then S else maA S q) (by omega) (by
          split
          · exact hS
          · exact maA_r H.2.1 hS (by omega)) ⟨i, j, h1, by omega, by
            split
            · exact h3
            · rw [maB_A (by omega) (by omega) (by omega), h3]
              rfl⟩
        omega
    rcases maM_at (maV (maCC c a b m f g) (maT (maCC c a b m f g) a b k) (a - (k + 1)) S) S (maV (maCC c a b m f g) (maT (maCC c a b m f g) a b k) (a - (k + 1)) S 8) b.toNat with q | ⟨j, j1, j2, q⟩
    · rw [q]
      exact key 8 (Or.inr rfl)
    · rw [q]
      exact key j (Or.inl ⟨j1.1, by omega, j2⟩)
/-- a state that keeps the marks -/
def maG (a b m : Int) (f g : Int → Int) (i S : Int) : Prop := ∀ i' j', maK a b m f g i' j' → (i' < i → maB S j' = true) ∧ (i ≤ i' → maB S j' = false)
theorem maG_0 (H : maH c a b m f g) : maG a b m f g 0 0 := fun i' j' h => ⟨fun q => by have := maK_r H h; omega, fun _ => maB_0 j'⟩
theorem maG_1 (H : maH c a b m f g) {i S j : Int} (G : maG a b m f g i S) (hS : 0 ≤ S ∧ S < maW b) (hj : (0 ≤ j ∧ j < b ∧ maB S j = false) ∨ j = 8) (p : maPP a b m f g i j = true) : maG a b m f g (i + 1) (if j = 8 then S else maA S j) ∧ maCC c a b m f g i j = c i j := by
  have p1 := (maPP_i H i j).mp p
  have w := maW_r H.2.1
  have hb := H.2.1
  refine ⟨fun i' j' h => ?_, maCC_0 H (fun j' h => (p1 i j' h).mp rfl)⟩
  have r := maK_r H h
  have g1 := G i' j' h
  have p2 := p1 i' j' h
  by_cases e8 : j = 8
  · rw [if_pos e8]
    exact ⟨fun q => g1.1 (by omega), fun q => g1.2 (by omega)⟩
  · rw [if_neg e8, maB_A (by omega) (by omega) (by omega)]
    refine ⟨fun q => ?_, fun q => ?_⟩
    · by_cases e : i' = i
      · rw [decide_eq_true (p2.mp e), Bool.or_true]
      · rw [g1.1 (by omega)]
        rfl
    · rw [g1.2 (by omega), decide_eq_false (by omega)]
      rfl
theorem maG_2 (H : maH c a b m f g) {i S j : Int} (hi : 0 ≤ i ∧ i < a) (G : maG a b m f g i S) (hS : 0 ≤ S ∧ S < maW b) (hj : (0 ≤ j ∧ j < b ∧ maB S j = false) ∨ j = 8) (p : ¬ maPP a b m f g i j = true) : 1000000 ≤ maV (maCC c a b m f g) (maT (maCC c a b m f g) a b (a - i - 1).toNat) i S j := by
  have w := maW_r H.2.1
  have hb := H.2.1
  rw [maPP_i H i j] at p
  have ⟨i', j', h, n⟩ : ∃ i' j', maK a b m f g i' j' ∧ ¬ (i' = i ↔ j' = j) := by
    refine Classical.byContradiction (fun z => p (fun i' j' h => Classical.byContradiction (fun y => z ⟨i', j', h, y⟩)))
  have r := maK_r H h
  have g1 := G i' j' h
  have c1 := maCC_r H i j
  have t1 := maT_r H (a - i - 1).toNat (if j = 8 then S else maA S j)
  unfold maV
  by_cases e : i' = i
  · subst e
    have := maCC_1 H (j := j) h (by omega)
    omega
  · have e2 : j' = j := by omega
    subst e2
    have e3 : i < i' := by
      rcases Int.lt_trichotomy i i' with q | q | q
      · exact q
      · omega
      · have := g1.1 q
        rcases hj with hj | hj
        · rw [this] at hj
          cases hj.2.2
        · omega
    have := maT_d H (a - i - 1).toNat (if j' = 8 then S else maA S j') (by omega) (by
      rw [if_neg (by omega)]
      exact maA_r hb hS (by omega)) ⟨i', j', h, by omega, by
        rw [if_neg (by omega), maB_A (by omega) (by omega) (by omega), decide_eq_true rfl, Bool.or_true]⟩
    omega
theorem maG_3 (H : maH c a b m f g) {i S : Int} (G : maG a b m f g i S) : ∃ j, ((0 ≤ j ∧ j < b ∧ maB S j = false) ∨ j = 8) ∧ maPP a b m f g i j = true := by
  have hb := H.2.1
  by_cases q : ∃ j, maK a b m f g i j
  · obtain ⟨j, q⟩ := q
    have r := maK_r H q
    exact ⟨j, Or.inl ⟨r.2.1, r.2.2, (G i j q).2 (Int.le_refl _)⟩, (maPP_i H i j).mpr (fun i' j' h => maK_1 H h q)⟩
  · refine ⟨8, Or.inr rfl, (maPP_i H i 8).mpr (fun i' j' h => ⟨fun e => ?_, fun e => ?_⟩)⟩
    · subst e
      exact absurd ⟨j', h⟩ q
    · have := maK_r H h
      omega
theorem maO_i {b S j : Int} : maO b S j = true ↔ (j < b ∧ maB S j = false) ∨ j = 8 := by
  unfold maO
  simp only [Bool.or_eq_true, Bool.and_eq_true, decide_eq_true_eq, Bool.not_eq_true', Or.comm]
theorem maV_e {t t' : Int → Int} {c' : Int → Int → Int} {i S j : Int} (h1 : c' i j = c i j) (h2 : t' (if j = 8 then S else maA S j) = t (if j = 8 then S else maA S j)) : maV c' t' i S j = maV c t i S j := by
  unfold maV
  rw [h1, h2]
/-- the same sum where the marks are kept -/
theorem maTR (H : maH c a b m f g) : ∀ (k : Nat) (S : Int), (k : Int) ≤ a → 0 ≤ S ∧ S < maW b → maG a b m f g (a - k) S → maT (maCC c a b m f g) a b k S = maR c (maPP a b m f g) a b k S ∧ maT (maCC c a b m f g) a b k S ≤ 3200 + 7000 * k := by
  intro k
  have w := maW_r H.2.1
  have hb := H.2.1
  have ha := H.1
  induction k with
  | zero =>
    intro S _ _ _
    have := maF_r S b.toNat
    refine ⟨rfl, ?_⟩
    show 400 * maF S b.toNat ≤ _
    omega
  | succ k ih =>
    intro S hk hS G
    have hi : 0 ≤ a - ((k + 1 : Nat) : Int) ∧ a - ((k + 1 : Nat) : Int) < a := by omega
    have ek : (a - (a - ((k + 1 : Nat) : Int)) - 1).toNat = k := by omega
    have ek1 : (a - (a - ((k + 1 : Nat) : Int))).toNat = k + 1 := by omega
    have eT := maT_s (C := maCC c a b m f g) (b := b) hi S
    have eR := maR_s (c := c) (P := maPP a b m f g) (b := b) hi S
    rw [ek, ek1] at eT eR
    generalize hii : a - ((k + 1 : Nat) : Int) = i at *
    have lT := maM_le (maV (maCC c a b m f g) (maT (maCC c a b m f g) a b k) i S) S (maV (maCC c a b m f g) (maT (maCC c a b m f g) a b k) i S 8) b.toNat
    have aT := maM_at (maV (maCC c a b m f g) (maT (maCC c a b m f g) a b k) i S) S (maV (maCC c a b m f g) (maT (maCC c a b m f g) a b k) i S 8) b.toNat
    have lR := maN_le (maV c (maR c (maPP a b m f g) a b k) i S) (fun j => maO b S j && maPP a b m f g i j) 9
    have aR := maN_at (maV c (maR c (maPP a b m f g) a b k) i S) (fun j => maO b S j && maPP a b m f g i j) 9
    rw [← eT] at lT aT
    rw [← eR] at lR aR
    have bad : ∀ j, ((0 ≤ j ∧ j < b ∧ maB S j = false) ∨ j = 8) → ¬ maPP a b m f g i j = true → 1000000 ≤ maV (maCC c a b m f g) (maT (maCC c a b m f g) a b k) i S j := fun j hj p => by
      have := maG_2 H hi G hS hj p
      rw [show (a - i - 1).toNat = k by omega] at this
      exact this
    have good : ∀ j, ((0 ≤ j ∧ j < b ∧ maB S j = false) ∨ j = 8) → maPP a b m f g i j = true → maV (maCC c a b m f g) (maT (maCC c a b m f g) a b k) i S j = maV c (maR c (maPP a b m f g) a b k) i S j ∧ maV (maCC c a b m f g) (maT (maCC c a b m f g) a b k) i S j ≤ 7000 + (3200 + 7000 * k) := fun j hj p => by
      obtain ⟨g1, g2⟩ := maG_1 H G hS hj p
      have h1 := ih (if j = 8 then S else maA S j) (by omega) (by
        split
        · exact hS
        · exact maA_r hb hS (by omega)) (by rw [show a - (k : Int) = i + 1 by omega]; exact g1)
      refine ⟨maV_e g2 h1.1, ?_⟩
      have := H.2.2.2.1 i j
      unfold maV
      rw [g2]
      omega
    have leT : ∀ j, ((0 ≤ j ∧ j < b ∧ maB S j = false) ∨ j = 8) → maT (maCC c a b m f g) a b (k + 1) S ≤ maV (maCC c a b m f g) (maT (maCC c a b m f g) a b k) i S j := fun j hj => by
      rcases hj with hj | hj
      · exact lT.2 j hj.1 (by omega) hj.2.2
      · rw [hj]
        exact lT.1
    have leR : ∀ j, ((0 ≤ j ∧ j < b ∧ maB S j = false) ∨ j = 8) → maPP a b m f g i j = true → maR c (maPP a b m f g) a b (k + 1) S ≤ maV c (maR c (maPP a b m f g) a b k) i S j := fun j hj p => by
      refine lR.2 j (by omega) (by omega) ?_
      show (maO b S j && maPP a b m f g i j) = true
      rw [p, Bool.and_true, maO_i]
      rcases hj with hj | hj
      · exact Or.inl hj.2
      · exact Or.inr hj
    obtain ⟨j0, hj0, p0⟩ := maG_3 H G
    have v0 := good j0 hj0 p0
    have t0 := leT j0 hj0
    have r0 := leR j0 hj0 p0
    have le1 : maT (maCC c a b m f g) a b (k + 1) S ≤ maR c (maPP a b m f g) a b (k + 1) S := by
      rcases aR with q | ⟨j, j1, j2, q⟩
      · omega
      · have j3 : (maO b S j && maPP a b m f g i j) = true := j2
        rw [Bool.and_eq_true, maO_i] at j3
        have hj : (0 ≤ j ∧ j < b ∧ maB S j = false) ∨ j = 8 := by
          rcases j3.1 with z | z
          · exact Or.inl ⟨j1.1, z⟩
          · exact Or.inr z
        have := leT j hj
        have := (good j hj j3.2).1
        omega
    have le2 : maR c (maPP a b m f g) a b (k + 1) S ≤ maT (maCC c a b m f g) a b (k + 1) S := by
      have key : ∀ j, ((0 ≤ j ∧ j < b ∧ maB S j = false) ∨ j = 8) → maT (maCC c a b m f g) a b (k + 1) S = maV (maCC c a b m f g) (maT (maCC c a b m f g) a b k) i S j → maR c (maPP a b m f g) a b (k + 1) S ≤ maT (maCC c a b m f g) a b (k + 1) S := fun j hj e => by
        by_cases p : maPP a b m f g i j = true
        · have := leR j hj p
          have := (good j hj p).1
          omega
        · have := bad j hj p
          omega
      rcases aT with q | ⟨j, j1, j2, q⟩
      · exact key 8 (Or.inr rfl) q
      · exact key j (Or.inl ⟨j1.1, by omega, j2⟩) q
    exact ⟨by omega, by omega⟩
/-- the same choice -/
theorem maXY (H : maH c a b m f g) {i S : Int} (hi : 0 ≤ i ∧ i < a) (hS : 0 ≤ S ∧ S < maW b) (G : maG a b m f g i S) : maX (maCC c a b m f g) a b i S = maY c (maPP a b m f g) a b i S ∧ ((0 ≤ maX (maCC c a b m f g) a b i S ∧ maX (maCC c a b m f g) a b i S < b ∧ maB S (maX (maCC c a b m f g) a b i S) = false) ∨ maX (maCC c a b m f g) a b i S = 8) ∧ maPP a b m f g i (maX (maCC c a b m f g) a b i S) = true := by
  have hb := H.2.1
  have ha := H.1
  have E0 := maTR H (a - i).toNat S (by omega) hS (by rw [show a - ((a - i).toNat : Int) = i by omega]; exact G)
  have good : ∀ j, ((0 ≤ j ∧ j < b ∧ maB S j = false) ∨ j = 8) → maPP a b m f g i j = true → maV (maCC c a b m f g) (maT (maCC c a b m f g) a b (a - i - 1).toNat) i S j = maV c (maR c (maPP a b m f g) a b (a - i - 1).toNat) i S j := fun j hj p => by
    obtain ⟨g1, g2⟩ := maG_1 H G hS hj p
    have h1 := maTR H (a - i - 1).toNat (if j = 8 then S else maA S j) (by omega) (by
      split
      · exact hS
      · exact maA_r hb hS (by omega)) (by rw [show a - ((a - i - 1).toNat : Int) = i + 1 by omega]; exact g1)
    exact maV_e g2 h1.1
  have aR := maN_at (maV c (maR c (maPP a b m f g) a b (a - i - 1).toNat) i S) (fun j => maO b S j && maPP a b m f g i j) 9
  rw [← maR_s (c := c) (P := maPP a b m f g) (b := b) hi S] at aR
  have fr : ∀ j, 0 ≤ j → maO b S j = true → (0 ≤ j ∧ j < b ∧ maB S j = false) ∨ j = 8 := fun j j0 q => by
    rcases maO_i.mp q with z | z
    · exact Or.inl ⟨j0, z⟩
    · exact Or.inr z
  have okR : ∀ j, 0 ≤ j → j < b → ((((maO b S j && maPP a b m f g i j) && decide (maV c (maR c (maPP a b m f g) a b (a - i - 1).toNat) i S j = maR c (maPP a b m f g) a b (a - i).toNat S)) = true) ↔ (!maB S j && decide (maV (maCC c a b m f g) (maT (maCC c a b m f g) a b (a - i - 1).toNat) i S j = maT (maCC c a b m f g) a b (a - i).toNat S)) = true) := fun j j0 j1 => by
    rw [Bool.and_eq_true, Bool.and_eq_true, Bool.and_eq_true, maO_i, decide_eq_true_eq, decide_eq_true_eq, Bool.not_eq_true']
    constructor
    · rintro ⟨⟨q1, q2⟩, q3⟩
      have q4 : maB S j = false := by
        rcases q1 with q1 | q1
        · exact q1.2
        · omega
      have := good j (Or.inl ⟨j0, j1, q4⟩) q2
      exact ⟨q4, by omega⟩
    · rintro ⟨q1, q2⟩
      have q3 : maPP a b m f g i j = true := by
        refine Classical.byContradiction (fun p => ?_)
        have := maG_2 H hi G hS (Or.inl ⟨j0, j1, q1⟩) p
        omega
      have := good j (Or.inl ⟨j0, j1, q1⟩) q3
      exact ⟨⟨Or.inl ⟨j1, q1⟩, q3⟩, by omega⟩
  have some1 : ∃ j, (0 ≤ j ∧ j < 9) ∧ ((maO b S j && maPP a b m f g i j) && decide (maV c (maR c (maPP a b m f g) a b (a - i - 1).toNat) i S j = maR c (maPP a b m f g) a b (a - i).toNat S)) = true := by
    rcases aR with q | ⟨j, j1, j2, q⟩
    · omega
    · have j3 : (maO b S j && maPP a b m f g i j) = true := j2
      exact ⟨j, j1, by rw [j3, decide_eq_true q.symm]; rfl⟩
  have dX := maD_at (fun j => !maB S j && decide (maV (maCC c a b m f g) (maT (maCC c a b m f g) a b (a - i - 1).toNat) i S j = maT (maCC c a b m f g) a b (a - i).toNat S)) b.toNat 8
  have dY := maD_at (fun j => (maO b S j && maPP a b m f g i j) && decide (maV c (maR c (maPP a b m f g) a b (a - i - 1).toNat) i S j = maR c (maPP a b m f g) a b (a - i).toNat S)) 9 (-1)
  change (∃ j : Int, _ ∧ _ ∧ _ ∧ maX (maCC c a b m f g) a b i S = j) ∨ (_ ∧ maX (maCC c a b m f g) a b i S = 8) at dX
  change (∃ j : Int, _ ∧ _ ∧ _ ∧ maY c (maPP a b m f g) a b i S = j) ∨ (_ ∧ maY c (maPP a b m f g) a b i S = -1) at dY
  rcases dY with ⟨j, y1, y2, y3, y4⟩ | ⟨y1, _⟩
  case inr =>
    obtain ⟨j, j1, j2⟩ := some1
    have := y1 j j1.1 (by omega)
    rw [this] at j2
    cases j2
  have y2' : ((maO b S j && maPP a b m f g i j) && decide (maV c (maR c (maPP a b m f g) a b (a - i - 1).toNat) i S j = maR c (maPP a b m f g) a b (a - i).toNat S)) = true := y2
  have y5 := y2'
  rw [Bool.and_eq_true, Bool.and_eq_true] at y5
  have yf := fr j y1.1 y5.1.1
  have same : maX (maCC c a b m f g) a b i S = j := by
    rcases dX with ⟨q, x1, x2, x3, x4⟩ | ⟨x1, x2⟩
    · have x6 := (okR q x1.1 (by omega)).mpr x2
      rcases Int.lt_trichotomy q j with z | z | z
      · have := y3 q x1.1 z
        rw [this] at x6
        cases x6
      · omega
      · have jb : j < b := by omega
        have := x3 j y1.1 z
        rw [(okR j y1.1 jb).mp y2'] at this
        cases this
    · rcases yf with z | z
      · have := x1 j y1.1 (by omega)
        rw [(okR j y1.1 z.2.1).mp y2'] at this
        cases this
      · omega
  rw [same, y4]
  exact ⟨rfl, yf, y5.1.2⟩
/-- the sets on the way -/
theorem maSS (H : maH c a b m f g) : ∀ i : Nat, (i : Int) ≤ a → maS (maX (maCC c a b m f g) a b) i = maS (maY c (maPP a b m f g) a b) i ∧ (0 ≤ maS (maX (maCC c a b m f g) a b) i ∧ maS (maX (maCC c a b m f g) a b) i < maW b) ∧ maG a b m f g i (maS (maX (maCC c a b m f g) a b) i) := by
  have hb := H.2.1
  have w := maW_r hb
  intro i
  induction i with
  | zero => exact fun _ => ⟨rfl, ⟨Int.le_refl _, by show (0 : Int) < _; omega⟩, maG_0 H⟩
  | succ i ih =>
    intro h
    obtain ⟨i1, i2, i3⟩ := ih (by omega)
    obtain ⟨x1, x2, x3⟩ := maXY H (i := i) (by omega) i2 i3
    have g1 := (maG_1 H i3 i2 x2 x3).1
    have e1 : maS (maX (maCC c a b m f g) a b) (i + 1) = if maX (maCC c a b m f g) a b i (maS (maX (maCC c a b m f g) a b) i) < 8 then maA (maS (maX (maCC c a b m f g) a b) i) (maX (maCC c a b m f g) a b i (maS (maX (maCC c a b m f g) a b) i)) else maS (maX (maCC c a b m f g) a b) i := rfl
    have e2 : maS (maY c (maPP a b m f g) a b) (i + 1) = if maY c (maPP a b m f g) a b i (maS (maY c (maPP a b m f g) a b) i) < 8 then maA (maS (maY c (maPP a b m f g) a b) i) (maY c (maPP a b m f g) a b i (maS (maY c (maPP a b m f g) a b) i)) else maS (maY c (maPP a b m f g) a b) i := rfl
    rw [e2, ← i1, ← x1, ← e1]
    refine ⟨rfl, ?_⟩
    rw [e1]
    generalize maX (maCC c a b m f g) a b i (maS (maX (maCC c a b m f g) a b) i) = x at *
    generalize maS (maX (maCC c a b m f g) a b) i = S at *
    by_cases e8 : x = 8
    · rw [if_pos e8] at g1
      rw [if_neg (by omega)]
      exact ⟨i2, g1⟩
    · rw [if_neg e8] at g1
      rw [if_pos (by omega)]
      exact ⟨maA_r hb i2 (by omega), g1⟩
/-- the partner of a row, on both sides -/
def maZ (c : Int → Int → Int) (a b m : Int) (f g : Int → Int) (i : Int) : Int := maX (maCC c a b m f g) a b i (maS (maX (maCC c a b m f g) a b) i.toNat)
theorem maZ_e (H : maH c a b m f g) {i : Int} (hi : 0 ≤ i ∧ i < a) : maY c (maPP a b m f g) a b i (maS (maY c (maPP a b m f g) a b) i.toNat) = maZ c a b m f g i ∧ ((0 ≤ maZ c a b m f g i ∧ maZ c a b m f g i < b) ∨ maZ c a b m f g i = 8) := by
  obtain ⟨i1, i2, i3⟩ := maSS H i.toNat (by omega)
  rw [Int.toNat_of_nonneg hi.1] at i3
  obtain ⟨x1, x2, x3⟩ := maXY H hi i2 i3
  rw [← i1]
  refine ⟨x1.symm, ?_⟩
  unfold maZ
  omega
theorem maT_e (H : maH c a b m f g) : maT (maCC c a b m f g) a b a.toNat 0 = maR c (maPP a b m f g) a b a.toNat 0 := by
  have ha := H.1
  have w := maW_r H.2.1
  refine (maTR H a.toNat 0 (by omega) (by omega) ?_).1
  rw [show a - (a.toNat : Int) = 0 by omega]
  exact maG_0 H
end MA2
