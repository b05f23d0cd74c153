/-! film: the bytes of a frame -/
/-- how many pixels from p on are alike (or not), at most k -/
def rnn (A B : Pic) (s : Bool) : Int → Nat → Int
  | _, 0 => 0
  | p, k + 1 => if p < 1536 ∧ decide (A p = B p) = s then 1 + rnn A B s (p + 1) k else 0
def pxB (v : Int) : List Int := if v = -1 then [0] else [1, v / 65536, v / 256 % 256, v % 256]
def pxl (A : Pic) (p : Int) : Nat → List Int
  | 0 => []
  | j + 1 => pxl A p j ++ pxB (A (p + j))
def enc (A B : Pic) : Int → Nat → List Int
  | _, 0 => []
  | p, k + 1 => if p < 1536 then [rnn A B true p 255, rnn A B false (p + rnn A B true p 255) 255] ++ pxl A (p + rnn A B true p 255) (rnn A B false (p + rnn A B true p 255) 255).toNat ++ enc A B (p + rnn A B true p 255 + rnn A B false (p + rnn A B true p 255) 255) k else []
section EC1
variable {A B : Pic}
theorem rnn_r (s : Bool) : ∀ (k : Nat) (p : Int), p ≤ 1536 → 0 ≤ rnn A B s p k ∧ rnn A B s p k ≤ k ∧ p + rnn A B s p k ≤ 1536 := by
  intro k
  induction k with
  | zero => intro p hp; exact ⟨Int.le_refl _, Int.le_refl _, by show p + 0 ≤ 1536; omega⟩
  | succ k ih =>
    intro p hp
    show 0 ≤ (if p < 1536 ∧ decide (A p = B p) = s then 1 + rnn A B s (p + 1) k else 0) ∧ (if p < 1536 ∧ decide (A p = B p) = s then 1 + rnn A B s (p + 1) k else 0) ≤ _ ∧ p + (if p < 1536 ∧ decide (A p = B p) = s then 1 + rnn A B s (p + 1) k else 0) ≤ 1536
    by_cases g : p < 1536 ∧ decide (A p = B p) = s
    · rw [if_pos g]
      have := ih (p + 1) (by omega)
      omega
    · rw [if_neg g]
      omega
/-- why it stopped -/
theorem rnn_e (s : Bool) : ∀ (k : Nat) (p : Int), p ≤ 1536 → rnn A B s p k < k → p + rnn A B s p k = 1536 ∨ decide (A (p + rnn A B s p k) = B (p + rnn A B s p k)) ≠ s := by
  intro k
  induction k with
  | zero => intro p hp h; exact absurd h (by show ¬ (0 : Int) < 0; omega)
  | succ k ih =>
    intro p hp h
    have e : rnn A B s p (k + 1) = if p < 1536 ∧ decide (A p = B p) = s then 1 + rnn A B s (p + 1) k else 0 := rfl
    by_cases g : p < 1536 ∧ decide (A p = B p) = s
    · rw [if_pos g] at e
      rw [e] at h ⊢
      have := ih (p + 1) (by omega) (by omega)
      rw [show p + (1 + rnn A B s (p + 1) k) = p + 1 + rnn A B s (p + 1) k by omega]
      exact this
    · rw [if_neg g] at e
      rw [e, Int.add_zero]
      by_cases g2 : p = 1536
      · exact Or.inl g2
      · exact Or.inr (fun z => g ⟨by omega, z⟩)
theorem rnn_1 (s : Bool) {p : Int} {k : Nat} (h : p < 1536) (e : decide (A p = B p) = s) : 1 ≤ rnn A B s p (k + 1) := by
  have r := rnn_r (A := A) (B := B) s k (p + 1) (by omega)
  show 1 ≤ (if p < 1536 ∧ decide (A p = B p) = s then 1 + rnn A B s (p + 1) k else 0)
  rw [if_pos ⟨h, e⟩]
  omega
theorem pxB_l (v : Int) : (pxB v).length ≤ 4 := by
  unfold pxB
  split
  · exact Nat.le_of_ble_eq_true rfl
  · exact Nat.le_refl _
theorem pxl_l (p : Int) : ∀ j : Nat, (pxl A p j).length ≤ 4 * j := by
  intro j
  induction j with
  | zero => exact Nat.le_refl _
  | succ j ih =>
    have e : (pxl A p (j + 1)).length = (pxl A p j).length + (pxB (A (p + j))).length := List.length_append
    have := pxB_l (A (p + j))
    omega
/-- how long the bytes of a frame may be -/
theorem enc_l : ∀ (k : Nat) (p : Int), 0 ≤ p → p ≤ 1536 → ((enc A B p k).length : Int) ≤ 4 * (1536 - p) + 2 * ((1536 - p) / 255 + 1) ∧ ((p < 1536 → A p = B p) → ((enc A B p k).length : Int) ≤ 4 * (1536 - p) + 2 * ((1536 - p) / 255)) := by
  intro k
  induction k with
  | zero =>
    intro p h0 h1
    have e : (enc A B p 0).length = 0 := rfl
    rw [e]
    exact ⟨by omega, fun _ => by omega⟩
  | succ k ih =>
    intro p h0 h1
    have e : enc A B p (k + 1) = if p < 1536 then [rnn A B true p 255, rnn A B false (p + rnn A B true p 255) 255] ++ pxl A (p + rnn A B true p 255) (rnn A B false (p + rnn A B true p 255) 255).toNat ++ enc A B (p + rnn A B true p 255 + rnn A B false (p + rnn A B true p 255) 255) k else [] := rfl
    by_cases g : p < 1536
    · rw [if_pos g] at e
      have rs := rnn_r (A := A) (B := B) true 255 p h1
      have ro := rnn_r (A := A) (B := B) false 255 (p + rnn A B true p 255) rs.2.2
      have re := rnn_e (A := A) (B := B) false 255 (p + rnn A B true p 255) rs.2.2
      have s1 : A p = B p → 1 ≤ rnn A B true p 255 := fun q => rnn_1 (k := 254) true g (decide_eq_true q)
      have i1 := ih (p + rnn A B true p 255 + rnn A B false (p + rnn A B true p 255) 255) (by omega) (by omega)
      have pl := pxl_l (A := A) (p + rnn A B true p 255) (rnn A B false (p + rnn A B true p 255) 255).toNat
      have el : (enc A B p (k + 1)).length = 2 + (pxl A (p + rnn A B true p 255) (rnn A B false (p + rnn A B true p 255) 255).toNat).length + (enc A B (p + rnn A B true p 255 + rnn A B false (p + rnn A B true p 255) 255) k).length := by
        rw [e, List.length_append, List.length_append]
        rfl
      rw [el]
      generalize hs : rnn A B true p 255 = s at *
      generalize ho : rnn A B false (p + s) 255 = o at *
      have stop : o < 255 → p + s + o < 1536 → A (p + s + o) = B (p + s + o) := fun q w => by
        rcases re q with z | z
        · omega
        · by_cases w2 : A (p + s + o) = B (p + s + o)
          · exact w2
          · exact absurd (decide_eq_false w2) z
      by_cases c : o < 255
      · have i2 := i1.2 (stop c)
        refine ⟨by omega, fun q => ?_⟩
        have := s1 (q g)
        omega
      · have i2 := i1.1
        have eo : o = 255 := by omega
        refine ⟨by omega, fun q => ?_⟩
        have := s1 (q g)
        omega
    · rw [if_neg g] at e
      rw [e]
      have e0 : ([] : List Int).length = 0 := rfl
      rw [e0]
      exact ⟨by omega, fun _ => by omega⟩
theorem enc_6 (A B : Pic) (k : Nat) : ((enc A B 0 k).length : Int) ≤ 6158 := by
  have := (enc_l (A := A) (B := B) k 0 (by omega) (by omega)).1
  omega
end EC1
