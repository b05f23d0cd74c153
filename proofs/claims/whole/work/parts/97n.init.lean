/-! new objects: all that is asked between calls holds -/
theorem new_run (E : AEn) : ∃ (i : LgI) (r : LgR), fsh i r 704 = true ∧ Sp E 132 [.ref 43] (LI []) (LR []) 44 (fun q => q = (none, LI i, LR r, 704)) ∧ Sp E 212 [.ref 704] (LI i) (LR r) 705 (fun q => q = (none, LI litI, LR litR, 775)) := by
  have hA := ckA_t
  have hB := ckB_t
  unfold ckA at hA
  unfold ckB at hB
  cases eA : cA with
  | none =>
    rw [eA] at hA
    cases hA
  | some q =>
    rw [eA] at hA
    have hA' : (q.1.isNone && Nat.beq q.2.2.2 704 && fsh q.2.1 q.2.2.1 704) = true := hA
    simp only [Bool.and_eq_true, Nat.beq_eq] at hA'
    obtain ⟨⟨a1, a2⟩, a3⟩ := hA'
    have q1 : q.1 = none := Option.isNone_iff_eq_none.mp a1
    have eB : cB = c_ex 3000 212 (a_bl 212 0) (a_pad (a_ml 212) (a_args [.ref 704])) [] q.2.1 q.2.2.1 (q.2.2.2 + 1) := by
      unfold cB
      rw [eA]
    rw [a2] at eB
    cases eC : cB with
    | none =>
      rw [eC] at hB
      cases hB
    | some p =>
      rw [eC] at hB
      have hB' : (p.1.isNone && Nat.beq p.2.2.2 775 && eqI p.2.1 litI && eqR p.2.2.1 litR) = true := hB
      simp only [Bool.and_eq_true, Nat.beq_eq] at hB'
      obtain ⟨⟨⟨b1, b2⟩, b3⟩, b4⟩ := hB'
      have p1 : p.1 = none := Option.isNone_iff_eq_none.mp b1
      have r1 := c_ok (E := E) 3000 132 _ _ _ _ _ _ q eA
      have r2 := c_ok (E := E) 3000 212 _ _ _ _ _ _ p (eB.symm.trans eC)
      refine ⟨q.2.1, q.2.2.1, a3, ⟨3000, _, r1, ?_⟩, ⟨3000, _, r2, ?_⟩⟩
      · rw [q1, a2]
      · rw [p1, b2, eqI_e _ _ b3, eqR_e _ _ b4]
def obq (a b : Option Nat) : Bool := match a, b with
  | some x, some y => Nat.beq x y
  | none, none => true
  | _, _ => false
theorem obq_e {a b : Option Nat} (h : obq a b = true) : a = b := by
  cases a with
  | none =>
    cases b with
    | none => rfl
    | some y => cases h
  | some x =>
    cases b with
    | none => cases h
    | some y => exact congrArg some (Nat.eq_of_beq_eq_true h)
def in1 (j : Nat) : Bool := ((hrT.drop (100 * j)).take 100).all (fun e => obq (LR litR e.1 e.2.1) (some e.2.2))
def in2 (l : LgR) : Bool := l.all (fun e => dyn e.1 e.2.1 || obq (HR0 e.1 e.2.1) (some e.2.2))
theorem in1_0 : in1 0 = true := by decide +kernel
theorem in1_1 : in1 1 = true := by decide +kernel
theorem in1_2 : in1 2 = true := by decide +kernel
theorem in1_3 : in1 3 = true := by decide +kernel
theorem in1_4 : in1 4 = true := by decide +kernel
theorem in1_5 : in1 5 = true := by decide +kernel
theorem in1_6 : in1 6 = true := by decide +kernel
theorem in1_7 : hrT.length ≤ 700 := by decide +kernel
theorem in2_0 : in2 litR0 = true := by decide +kernel
theorem in2_1 : in2 litR1 = true := by decide +kernel
theorem in2_2 : in2 litR2 = true := by decide +kernel
theorem in2_3 : in2 litR3 = true := by decide +kernel
theorem in2_4 : in2 litR4 = true := by decide +kernel
theorem in2_5 : in2 litR5 = true := by decide +kernel
theorem in2_6 : in2 litR6 = true := by decide +kernel
theorem in2_7 : in2 litR7 = true := by decide +kernel
theorem in3_a : LR litR 46 0 = some 47 := by decide +kernel
theorem in3_b : ∀ d, d < 16 → ∀ s, s < 8 → LR litR (160 + 29 * d) s = some (164 + 29 * d + 3 * s) := by decide +kernel
theorem in3_c : ∀ i, i < 10 → LR litR 114 i = some 4 := by decide +kernel
/-- where a number was written -/
def kz (a k : Nat) : Bool := (Nat.beq a 43 && (Nat.beq k 11 || Nat.beq k 12)) || (Nat.ble 86 a && Nat.blt a 90) || (Nat.ble 623 a && Nat.blt a 635 && Nat.beq ((a - 623) % 3) 0 && Nat.beq k 4) || (Nat.beq a 704 && (Nat.beq k 51 || Nat.beq k 52)) || Nat.beq a 733 || Nat.beq a 760
theorem in4 : litI.all (fun e => kz e.1 e.2.1) = true := by decide +kernel
theorem in5 : ∀ p, p < 4 → ∀ c, c < 16 → 1 ≤ c → LI litI (86 + p) c = J ((c * 1118481 : Nat) : Int) ∧ LI litI 733 (16 * p + c) = J ((c * 1118481 : Nat) : Int) := by decide +kernel
theorem in6 : (LI litI 43 11 = J 24 ∧ LI litI 43 12 = J 16 ∧ LI litI 704 51 = J 24 ∧ LI litI 704 52 = J 16) ∧ ∀ l, l < 4 → LI litI (623 + 3 * l) 4 = J 64 ∧ LI litI 760 l = J 64 := by decide +kernel
