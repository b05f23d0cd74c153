/-! Systems: which cell belongs to what; loops; families of objects -/
def sysA (a k : Nat) : Nat :=
  if a = 43 then (if k = 10 then 12 else if k = 11 then 11 else if k = 12 then 11 else 0)
  else if a = 44 then (if k = 1 then 1 else 0)
  else if a = 45 then 1
  else if a < 48 then 2
  else if a < 86 then 0
  else if a < 90 then 5
  else if a = 91 then (if k = 2 then 9 else if k = 7 then 10 else 0)
  else if a < 92 then 0
  else if a < 94 then 9
  else if a < 97 then 0
  else if a = 97 then 10
  else if a = 98 then 0
  else if a < 105 then 12
  else if a = 105 then (if k = 4 then 14 else 0)
  else if a = 106 then 13
  else if a = 107 then 0
  else if a < 110 then 14
  else if a < 113 then 0
  else if a = 113 then (if k = 2 then 16 else if k = 10 then 17 else if k = 11 then 17 else 0)
  else if a < 116 then 0
  else if a < 127 then 16
  else if a < 144 then 0
  else if a < 152 then 17
  else if a < 153 then 0
  else if a < 156 then 18
  else if a < 157 then 0
  else 18
def sysM (k : Nat) : Nat :=
  if k = 2 then 1 else if k = 7 then 2 else if k = 45 then 9 else if k = 49 then 10 else if k = 50 then 12 else if k = 51 then 11 else if k = 52 then 11
  else if k = 65 then 14 else if k = 70 then 15 else if k = 82 then 16 else if k = 87 then 17 else if k = 88 then 17 else 0
def sysB (a : Nat) : Nat :=
  if a = 705 then 1 else if a = 706 then 0 else if a = 707 then 2 else if a < 713 then 3 else if a < 719 then 0 else if a < 724 then 4 else if a < 733 then 0
  else if a = 733 then 5 else if a < 736 then 6 else if a = 736 then 0 else if a < 739 then 9 else if a = 739 then 0 else if a = 740 then 10 else if a = 741 then 0
  else if a < 749 then 12 else if a = 749 then 0 else if a = 750 then 13 else if a = 751 then 0 else if a < 754 then 14 else if a < 756 then 0 else if a < 760 then 15
  else if a = 760 then 7 else if a < 764 then 8 else if a < 766 then 16 else if a < 768 then 0 else if a = 768 then 17 else if a < 771 then 0 else if a < 774 then 18 else if a < 775 then 0 else 2
def sysD (r k : Nat) : Nat := if r = 2 then 4 else if r = 3 then 4 else if r = 4 then 4 else if r = 0 then (if k = 5 then 4 else 3) else 3
def sysL (r k : Nat) : Nat := if r = 0 then (if k = 1 then 6 else if k = 4 then 7 else if k = 5 then 8 else if k = 6 then 8 else if k = 7 then 8 else 0) else if r = 1 then 6 else 0
/-- the system of a cell -/
def sys (a k : Nat) : Nat :=
  if a < 159 then sysA a k
  else if a < 623 then sysD ((a - 159) % 29) k
  else if a < 635 then sysL ((a - 623) % 3) k
  else if a < 695 then 12
  else if a < 704 then 15
  else if a = 704 then sysM k
  else sysB a
/-- nothing changed but what no one remembers, x and y -/
def Kp (x y : Nat) (h h' : AHi) : Prop := Ef (fun a k => sys a k = 0 ∨ sys a k = x ∨ sys a k = y) h h'
theorem Kp.refl {x y : Nat} {h : AHi} : Kp x y h h := Ef.refl
theorem Kp.trans {x y : Nat} {h h' h'' : AHi} (e : Kp x y h h') (e' : Kp x y h' h'') : Kp x y h h'' := Ef.trans e e'
theorem Kp.hI0 {x y : Nat} {h h' : AHi} {a k : Nat} {v : Int32} (e : Kp x y h h') (hs : sys a k = 0) : Kp x y h (hI h' a k v) := Ef.hI e (Or.inl hs)
theorem Kp.hI1 {x y : Nat} {h h' : AHi} {a k : Nat} {v : Int32} (e : Kp x y h h') (hs : sys a k = x) : Kp x y h (hI h' a k v) := Ef.hI e (Or.inr (Or.inl hs))
theorem Kp.hI2 {x y : Nat} {h h' : AHi} {a k : Nat} {v : Int32} (e : Kp x y h h') (hs : sys a k = y) : Kp x y h (hI h' a k v) := Ef.hI e (Or.inr (Or.inr hs))
theorem Kp.sA0 {x y : Nat} {h h' : AHi} {a : Nat} {i : Int} {v : Int32} (e : Kp x y h h') (hs : sys a i.toNat = 0) : Kp x y h (sA h' a i v) := Ef.hI e (Or.inl hs)
theorem Kp.sA1 {x y : Nat} {h h' : AHi} {a : Nat} {i : Int} {v : Int32} (e : Kp x y h h') (hs : sys a i.toNat = x) : Kp x y h (sA h' a i v) := Ef.hI e (Or.inr (Or.inl hs))
theorem Kp.sA2 {x y : Nat} {h h' : AHi} {a : Nat} {i : Int} {v : Int32} (e : Kp x y h h') (hs : sys a i.toNat = y) : Kp x y h (sA h' a i v) := Ef.hI e (Or.inr (Or.inr hs))
theorem Kp.mono {x y x' y' : Nat} {h h' : AHi} (e : Kp x y h h') (hx : x = 0 ∨ x = x' ∨ x = y') (hy : y = 0 ∨ y = x' ∨ y = y') : Kp x' y' h h' := Ef.mono e fun a k q => by omega
theorem Kp.of {x y : Nat} {S : Nat → Nat → Prop} {h h' : AHi} (e : Ef S h h') (hs : ∀ a k, S a k → sys a k = 0 ∨ sys a k = x ∨ sys a k = y) : Kp x y h h' := Ef.mono e hs
/-- the cells of a system are as they were -/
def Sm (z : Nat) (h h' : AHi) : Prop := ∀ a k, sys a k = z → h' a k = h a k
theorem Kp.sm {x y z : Nat} {h h' : AHi} (e : Kp x y h h') (h0 : z ≠ 0) (h1 : z ≠ x) (h2 : z ≠ y) : Sm z h h' := fun a k q => e a k (by omega)
theorem Sm.g {z : Nat} {h h' : AHi} (e : Sm z h h') {a : Nat} {i : Int} (q : sys a i.toNat = z) : gA h' a i = gA h a i := e _ _ q
theorem sys_D {a k : Nat} (h : 159 ≤ a) (h' : a < 623) : sys a k = sysD ((a - 159) % 29) k := by unfold sys; rw [if_neg (by omega), if_pos h']
theorem sys_L {a k : Nat} (h : 623 ≤ a) (h' : a < 635) : sys a k = sysL ((a - 623) % 3) k := by unfold sys; rw [if_neg (by omega), if_neg (by omega), if_pos h']
theorem sys_12 {a k : Nat} (h : 635 ≤ a) (h' : a < 695) : sys a k = 12 := by unfold sys; rw [if_neg (by omega), if_neg (by omega), if_neg (by omega), if_pos h']
theorem sys_15 {a k : Nat} (h : 695 ≤ a) (h' : a < 704) : sys a k = 15 := by unfold sys; rw [if_neg (by omega), if_neg (by omega), if_neg (by omega), if_neg (by omega), if_pos h']
theorem sys_A {a k : Nat} (h' : a < 159) : sys a k = sysA a k := by unfold sys; rw [if_pos h']
theorem sys_0 {a k : Nat} (h : 48 ≤ a) (h' : a < 86) : sys a k = 0 := by
  rw [sys_A (by omega)]
  unfold sysA
  rw [if_neg (by omega), if_neg (by omega), if_neg (by omega), if_neg (by omega), if_pos h']
/-- a loop by a number that grows -/
theorem T_for {E : AEn} {m L : Nat} {hr : AHr} {n : Nat} {Q : ARs → Prop} {σ : Type} (ls : Int → σ → List Value) (P : Int → σ → AHi → Prop) (lo N : Int)
    (step : ∀ i s h, lo ≤ i → i < N → P i s h → (∀ s' h', P (i + 1) s' h' → Tm E m (a_bl m L) (ls (i + 1) s') [] h' hr n Q) → Tm E m (a_bl m L) (ls i s) [] h hr n Q)
    (exit : ∀ s h, P N s h → Tm E m (a_bl m L) (ls N s) [] h hr n Q) :
    ∀ i s h, lo ≤ i → i ≤ N → P i s h → Tm E m (a_bl m L) (ls i s) [] h hr n Q := by
  have key : ∀ (q : Nat) i s h, lo ≤ i → i ≤ N → (N - i).toNat = q → P i s h → Tm E m (a_bl m L) (ls i s) [] h hr n Q := by
    intro q
    induction q with
    | zero =>
      intro i s h h1 h2 h3 hp
      have e : i = N := by omega
      subst e
      exact exit s h hp
    | succ q ih =>
      intro i s h h1 h2 h3 hp
      exact step i s h h1 (by omega) hp (fun s' h' hp' => ih (i + 1) s' h' (by omega) (by omega) (by omega) hp')
  exact fun i s h h1 h2 hp => key _ i s h h1 h2 rfl hp
/-- a loop by a number that falls -/
theorem T_down {E : AEn} {m L : Nat} {hr : AHr} {n : Nat} {Q : ARs → Prop} {σ : Type} (ls : Int → σ → List Value) (P : Int → σ → AHi → Prop) (lo N : Int)
    (step : ∀ i s h, lo < i → i ≤ N → P i s h → (∀ s' h', P (i - 1) s' h' → Tm E m (a_bl m L) (ls (i - 1) s') [] h' hr n Q) → Tm E m (a_bl m L) (ls i s) [] h hr n Q)
    (exit : ∀ s h, P lo s h → Tm E m (a_bl m L) (ls lo s) [] h hr n Q) :
    ∀ i s h, lo ≤ i → i ≤ N → P i s h → Tm E m (a_bl m L) (ls i s) [] h hr n Q := by
  have key : ∀ (q : Nat) i s h, lo ≤ i → i ≤ N → (i - lo).toNat = q → P i s h → Tm E m (a_bl m L) (ls i s) [] h hr n Q := by
    intro q
    induction q with
    | zero =>
      intro i s h h1 h2 h3 hp
      have e : i = lo := by omega
      subst e
      exact exit s h hp
    | succ q ih =>
      intro i s h h1 h2 h3 hp
      exact step i s h (by omega) h2 hp (fun s' h' hp' => ih (i - 1) s' h' (by omega) (by omega) (by omega) hp')
  exact fun i s h h1 h2 hp => key _ i s h h1 h2 rfl hp
/-- a loop with a measure -/
theorem T_wh {E : AEn} {m L : Nat} {hr : AHr} {n : Nat} {Q : ARs → Prop} {σ : Type} (ls : σ → List Value) (P : σ → AHi → Prop) (μ : σ → AHi → Nat)
    (step : ∀ s h, P s h → (∀ s' h', P s' h' → μ s' h' < μ s h → Tm E m (a_bl m L) (ls s') [] h' hr n Q) → Tm E m (a_bl m L) (ls s) [] h hr n Q) :
    ∀ s h, P s h → Tm E m (a_bl m L) (ls s) [] h hr n Q := by
  have key : ∀ (q : Nat) s h, μ s h < q → P s h → Tm E m (a_bl m L) (ls s) [] h hr n Q := by
    intro q
    induction q with
    | zero => intro s h h1; omega
    | succ q ih => intro s h h1 hp; exact step s h hp (fun s' h' hp' hm => ih s' h' (by omega) hp')
  exact fun s h hp => key _ s h (Nat.lt_succ_self _) hp
theorem ln_S {E : AEn} {a : Nat} (h : 0 < a) : a_ln E a = a_lnS a := by
  unfold a_ln
  rw [show Nat.beq a 0 = false by cases a with | zero => omega | succ a => rfl]
  rfl
/-- layers, palettes, bones, keys, rows by their numbers -/
theorem fam_85 : ∀ i, i < 4 → (dyn 85 i = false ∧ HR0 85 i = some (86 + i)) ∧ a_kd (86 + i) = 20 ∧ a_lnS (86 + i) = 16 := by decide +kernel
theorem fam_90 : ∀ i, i < 4 → (dyn 90 i = false ∧ HR0 90 i = some (623 + 3 * i)) ∧ (dyn (623 + 3 * i) 0 = false ∧ HR0 (623 + 3 * i) 0 = some (624 + 3 * i)) ∧ (dyn (623 + 3 * i) 2 = false ∧ HR0 (623 + 3 * i) 2 = some (625 + 3 * i)) ∧ a_kd (623 + 3 * i) = 5 ∧ a_kd (624 + 3 * i) = 20 ∧ a_kd (625 + 3 * i) = 20 ∧ a_lnS (624 + 3 * i) = 120 ∧ a_lnS (625 + 3 * i) = 120 := by decide +kernel
theorem fam_48 : ∀ i, i < 16 → (dyn 48 i = false ∧ HR0 48 i = some (159 + 29 * i)) := by decide +kernel
theorem fam_D : ∀ i, i < 16 → (dyn (159 + 29 * i) 0 = false ∧ HR0 (159 + 29 * i) 0 = some (159 + 29 * i + 1)) ∧ (dyn (159 + 29 * i) 2 = false ∧ HR0 (159 + 29 * i) 2 = some (159 + 29 * i + 2)) ∧ (dyn (159 + 29 * i) 3 = false ∧ HR0 (159 + 29 * i) 3 = some (159 + 29 * i + 3)) ∧ (dyn (159 + 29 * i) 4 = false ∧ HR0 (159 + 29 * i) 4 = some (159 + 29 * i + 4)) ∧ (a_kd (159 + 29 * i) = 3 ∧ a_kd (159 + 29 * i + 1) = 39 ∧ a_kd (159 + 29 * i + 2) = 20 ∧ a_kd (159 + 29 * i + 3) = 20 ∧ a_kd (159 + 29 * i + 4) = 20) ∧ a_lnS (159 + 29 * i + 1) = 8 ∧ a_lnS (159 + 29 * i + 2) = 6 ∧ a_lnS (159 + 29 * i + 3) = 6 ∧ a_lnS (159 + 29 * i + 4) = 6 := by decide +kernel
theorem fam_S : ∀ i, i < 16 → ∀ k, k < 8 → (dyn (159 + 29 * i + 5 + 3 * k) 2 = false ∧ HR0 (159 + 29 * i + 5 + 3 * k) 2 = some (159 + 29 * i + 5 + 3 * k + 1)) ∧ (dyn (159 + 29 * i + 5 + 3 * k) 3 = false ∧ HR0 (159 + 29 * i + 5 + 3 * k) 3 = some (159 + 29 * i + 5 + 3 * k + 2)) ∧ (a_kd (159 + 29 * i + 5 + 3 * k) = 9 ∧ a_kd (159 + 29 * i + 5 + 3 * k + 1) = 20 ∧ a_kd (159 + 29 * i + 5 + 3 * k + 2) = 20) ∧ a_lnS (159 + 29 * i + 5 + 3 * k + 1) = 10 ∧ a_lnS (159 + 29 * i + 5 + 3 * k + 2) = 10 := by decide +kernel
theorem fam_d : (dyn 49 0 = false ∧ HR0 49 0 = some (49 + 1)) ∧ (dyn 49 2 = false ∧ HR0 49 2 = some (49 + 2)) ∧ (dyn 49 3 = false ∧ HR0 49 3 = some (49 + 3)) ∧ (dyn 49 4 = false ∧ HR0 49 4 = some (49 + 4)) ∧ (a_kd 49 = 3 ∧ a_kd (49 + 1) = 39 ∧ a_kd (49 + 2) = 20 ∧ a_kd (49 + 3) = 20 ∧ a_kd (49 + 4) = 20) ∧ a_lnS (49 + 1) = 8 ∧ a_lnS (49 + 2) = 6 ∧ a_lnS (49 + 3) = 6 ∧ a_lnS (49 + 4) = 6 := by decide +kernel
theorem fam_s : ∀ k, k < 8 → (dyn (49 + 5 + 3 * k) 2 = false ∧ HR0 (49 + 5 + 3 * k) 2 = some (49 + 5 + 3 * k + 1)) ∧ (dyn (49 + 5 + 3 * k) 3 = false ∧ HR0 (49 + 5 + 3 * k) 3 = some (49 + 5 + 3 * k + 2)) ∧ (a_kd (49 + 5 + 3 * k) = 9 ∧ a_kd (49 + 5 + 3 * k + 1) = 20 ∧ a_kd (49 + 5 + 3 * k + 2) = 20) ∧ a_lnS (49 + 5 + 3 * k + 1) = 10 ∧ a_lnS (49 + 5 + 3 * k + 2) = 10 := by decide +kernel
theorem fam_50 : ∀ i, i < 8 → (dyn 50 i = false ∧ HR0 50 i = some (49 + 5 + 3 * i)) := by decide +kernel
theorem fam_98 : ∀ i, i < 10 → (dyn 98 i = false ∧ HR0 98 i = some (635 + 6 * i)) := by decide +kernel
theorem fam_B : ∀ i, i < 10 → (dyn (635 + 6 * i) 3 = false ∧ HR0 (635 + 6 * i) 3 = some (635 + 6 * i + 1)) ∧ (dyn (635 + 6 * i) 4 = false ∧ HR0 (635 + 6 * i) 4 = some (635 + 6 * i + 4)) ∧ (dyn (635 + 6 * i) 5 = false ∧ HR0 (635 + 6 * i) 5 = some (635 + 6 * i + 5)) ∧ (dyn (635 + 6 * i + 1) 0 = false ∧ HR0 (635 + 6 * i + 1) 0 = some (635 + 6 * i + 1 + 1)) ∧ (dyn (635 + 6 * i + 1) 1 = false ∧ HR0 (635 + 6 * i + 1) 1 = some (635 + 6 * i + 1 + 2)) ∧ (a_kd (635 + 6 * i) = 0 ∧ a_kd (635 + 6 * i + 1) = 4 ∧ a_kd (635 + 6 * i + 1 + 1) = 20 ∧ a_kd (635 + 6 * i + 1 + 2) = 20 ∧ a_kd (635 + 6 * i + 4) = 20 ∧ a_kd (635 + 6 * i + 5) = 20) ∧ a_lnS (635 + 6 * i + 1 + 1) = 6 ∧ a_lnS (635 + 6 * i + 1 + 2) = 6 ∧ a_lnS (635 + 6 * i + 4) = 32 ∧ a_lnS (635 + 6 * i + 5) = 32 := by decide +kernel
theorem fam_b : (dyn 99 3 = false ∧ HR0 99 3 = some (99 + 1)) ∧ (dyn 99 4 = false ∧ HR0 99 4 = some (99 + 4)) ∧ (dyn 99 5 = false ∧ HR0 99 5 = some (99 + 5)) ∧ (dyn (99 + 1) 0 = false ∧ HR0 (99 + 1) 0 = some (99 + 1 + 1)) ∧ (dyn (99 + 1) 1 = false ∧ HR0 (99 + 1) 1 = some (99 + 1 + 2)) ∧ (a_kd 99 = 0 ∧ a_kd (99 + 1) = 4 ∧ a_kd (99 + 1 + 1) = 20 ∧ a_kd (99 + 1 + 2) = 20 ∧ a_kd (99 + 4) = 20 ∧ a_kd (99 + 5) = 20) ∧ a_lnS (99 + 1 + 1) = 6 ∧ a_lnS (99 + 1 + 2) = 6 ∧ a_lnS (99 + 4) = 32 ∧ a_lnS (99 + 5) = 32 := by decide +kernel
theorem fam_112 : ∀ i, i < 3 → (dyn 112 i = false ∧ HR0 112 i = some (695 + 3 * i)) ∧ (dyn (695 + 3 * i) 0 = false ∧ HR0 (695 + 3 * i) 0 = some (695 + 3 * i + 1)) ∧ (dyn (695 + 3 * i) 1 = false ∧ HR0 (695 + 3 * i) 1 = some (695 + 3 * i + 2)) ∧ a_kd (695 + 3 * i) = 4 ∧ a_kd (695 + 3 * i + 1) = 20 ∧ a_kd (695 + 3 * i + 2) = 20 ∧ a_lnS (695 + 3 * i + 1) = 8 ∧ a_lnS (695 + 3 * i + 2) = 8 := by decide +kernel
theorem fam_115 : ∀ i, i < 11 → (dyn 115 i = false ∧ HR0 115 i = some (116 + i)) ∧ a_kd (116 + i) = 20 ∧ a_lnS (116 + i) = 5 := by decide +kernel
theorem fam_127 : ∀ i, i < 10 → (dyn 127 i = false ∧ HR0 127 i = some (128 + i)) ∧ a_kd (128 + i) = 20 ∧ a_lnS (128 + i) = 1536 := by decide +kernel
theorem fam_143 : ∀ i, i < 8 → (dyn 143 i = false ∧ HR0 143 i = some (144 + i)) ∧ a_kd (144 + i) = 20 ∧ a_lnS (144 + i) = 1536 := by decide +kernel
theorem fam_152 : ∀ i, i < 4 → (dyn 152 i = false ∧ HR0 152 i = some (153 + i)) ∧ a_kd (153 + i) = 20 ∧ a_lnS (153 + i) = 100 := by decide +kernel
section FM
variable {E : AEn} {hr : AHr} {i : Int}
theorem X85 (E : AEn) (F : FH hr) (h0 : 0 ≤ i) (h1 : i < 4) : hr 85 i.toNat = some (86 + i.toNat) ∧ a_kd (86 + i.toNat) = 20 ∧ a_ln E (86 + i.toNat) = 16 := by
  have f := fam_85 i.toNat (by omega)
  exact ⟨(F _ _ f.1.1).trans f.1.2, f.2.1, (ln_S (by omega)).trans f.2.2⟩
theorem X90 (E : AEn) (F : FH hr) (h0 : 0 ≤ i) (h1 : i < 4) : hr 90 i.toNat = some (623 + 3 * i.toNat) ∧ hr (623 + 3 * i.toNat) 0 = some (624 + 3 * i.toNat) ∧ hr (623 + 3 * i.toNat) 2 = some (625 + 3 * i.toNat) ∧ a_kd (623 + 3 * i.toNat) = 5 ∧ a_kd (624 + 3 * i.toNat) = 20 ∧ a_kd (625 + 3 * i.toNat) = 20 ∧ a_ln E (624 + 3 * i.toNat) = 120 ∧ a_ln E (625 + 3 * i.toNat) = 120 := by
  have f := fam_90 i.toNat (by omega)
  exact ⟨(F _ _ f.1.1).trans f.1.2, (F _ _ f.2.1.1).trans f.2.1.2, (F _ _ f.2.2.1.1).trans f.2.2.1.2, f.2.2.2.1, f.2.2.2.2.1, f.2.2.2.2.2.1, (ln_S (by omega)).trans f.2.2.2.2.2.2.1, (ln_S (by omega)).trans f.2.2.2.2.2.2.2⟩
theorem X48 (F : FH hr) (h0 : 0 ≤ i) (h1 : i < 16) : hr 48 i.toNat = some (159 + 29 * i.toNat) := (F _ _ (fam_48 i.toNat (by omega)).1).trans (fam_48 i.toNat (by omega)).2
theorem X98 (F : FH hr) (h0 : 0 ≤ i) (h1 : i < 10) : hr 98 i.toNat = some (635 + 6 * i.toNat) := (F _ _ (fam_98 i.toNat (by omega)).1).trans (fam_98 i.toNat (by omega)).2
theorem X112 (E : AEn) (F : FH hr) (h0 : 0 ≤ i) (h1 : i < 3) : hr 112 i.toNat = some (695 + 3 * i.toNat) ∧ hr (695 + 3 * i.toNat) 0 = some (695 + 3 * i.toNat + 1) ∧ hr (695 + 3 * i.toNat) 1 = some (695 + 3 * i.toNat + 2) ∧ a_kd (695 + 3 * i.toNat) = 4 ∧ a_kd (695 + 3 * i.toNat + 1) = 20 ∧ a_kd (695 + 3 * i.toNat + 2) = 20 ∧ a_ln E (695 + 3 * i.toNat + 1) = 8 ∧ a_ln E (695 + 3 * i.toNat + 2) = 8 := by
  have f := fam_112 i.toNat (by omega)
  exact ⟨(F _ _ f.1.1).trans f.1.2, (F _ _ f.2.1.1).trans f.2.1.2, (F _ _ f.2.2.1.1).trans f.2.2.1.2, f.2.2.2.1, f.2.2.2.2.1, f.2.2.2.2.2.1, (ln_S (by omega)).trans f.2.2.2.2.2.2.1, (ln_S (by omega)).trans f.2.2.2.2.2.2.2⟩
theorem X115 (E : AEn) (F : FH hr) (h0 : 0 ≤ i) (h1 : i < 11) : hr 115 i.toNat = some (116 + i.toNat) ∧ a_kd (116 + i.toNat) = 20 ∧ a_ln E (116 + i.toNat) = 5 := by
  have f := fam_115 i.toNat (by omega)
  exact ⟨(F _ _ f.1.1).trans f.1.2, f.2.1, (ln_S (by omega)).trans f.2.2⟩
theorem X127 (E : AEn) (F : FH hr) (h0 : 0 ≤ i) (h1 : i < 10) : hr 127 i.toNat = some (128 + i.toNat) ∧ a_kd (128 + i.toNat) = 20 ∧ a_ln E (128 + i.toNat) = 1536 := by
  have f := fam_127 i.toNat (by omega)
  exact ⟨(F _ _ f.1.1).trans f.1.2, f.2.1, (ln_S (by omega)).trans f.2.2⟩
theorem X143 (E : AEn) (F : FH hr) (h0 : 0 ≤ i) (h1 : i < 8) : hr 143 i.toNat = some (144 + i.toNat) ∧ a_kd (144 + i.toNat) = 20 ∧ a_ln E (144 + i.toNat) = 1536 := by
  have f := fam_143 i.toNat (by omega)
  exact ⟨(F _ _ f.1.1).trans f.1.2, f.2.1, (ln_S (by omega)).trans f.2.2⟩
theorem X152 (E : AEn) (F : FH hr) (h0 : 0 ≤ i) (h1 : i < 4) : hr 152 i.toNat = some (153 + i.toNat) ∧ a_kd (153 + i.toNat) = 20 ∧ a_ln E (153 + i.toNat) = 100 := by
  have f := fam_152 i.toNat (by omega)
  exact ⟨(F _ _ f.1.1).trans f.1.2, f.2.1, (ln_S (by omega)).trans f.2.2⟩
/-- a drawing's cell -/
def DB (b : Nat) : Prop := b = 49 ∨ ∃ d, d < 16 ∧ b = 159 + 29 * d
/-- a stroke's cell -/
def SB (a : Nat) : Prop := ∃ b k, DB b ∧ k < 8 ∧ a = b + 5 + 3 * k
theorem DB.r {b : Nat} (D : DB b) : 49 ≤ b ∧ b + 28 < 623 := by
  rcases D with D | ⟨d, D, rfl⟩ <;> omega
theorem DB.x {b : Nat} (D : DB b) (E : AEn) (F : FH hr) : (hr b 0 = some (b + 1) ∧ hr b 2 = some (b + 2) ∧ hr b 3 = some (b + 3) ∧ hr b 4 = some (b + 4)) ∧ (a_kd b = 3 ∧ a_kd (b + 1) = 39 ∧ a_kd (b + 2) = 20 ∧ a_kd (b + 3) = 20 ∧ a_kd (b + 4) = 20) ∧ a_ln E (b + 1) = 8 ∧ a_ln E (b + 2) = 6 ∧ a_ln E (b + 3) = 6 ∧ a_ln E (b + 4) = 6 := by
  have key : ((dyn b 0 = false ∧ HR0 b 0 = some (b + 1)) ∧ (dyn b 2 = false ∧ HR0 b 2 = some (b + 2)) ∧ (dyn b 3 = false ∧ HR0 b 3 = some (b + 3)) ∧ (dyn b 4 = false ∧ HR0 b 4 = some (b + 4)) ∧ (a_kd b = 3 ∧ a_kd (b + 1) = 39 ∧ a_kd (b + 2) = 20 ∧ a_kd (b + 3) = 20 ∧ a_kd (b + 4) = 20) ∧ a_lnS (b + 1) = 8 ∧ a_lnS (b + 2) = 6 ∧ a_lnS (b + 3) = 6 ∧ a_lnS (b + 4) = 6) := by
    rcases D with rfl | ⟨d, hd, rfl⟩
    · exact fam_d
    · exact fam_D d hd
  obtain ⟨f1, f2, f3, f4, f5, f6, f7, f8, f9⟩ := key
  exact ⟨⟨(F _ _ f1.1).trans f1.2, (F _ _ f2.1).trans f2.2, (F _ _ f3.1).trans f3.2, (F _ _ f4.1).trans f4.2⟩, f5, (ln_S (by omega)).trans f6, (ln_S (by omega)).trans f7, (ln_S (by omega)).trans f8, (ln_S (by omega)).trans f9⟩
theorem SB.r {a : Nat} (S : SB a) : 54 ≤ a ∧ a + 2 < 623 := by
  obtain ⟨b, k, D, hk, rfl⟩ := S
  have := D.r
  omega
theorem SB.x {a : Nat} (S : SB a) (E : AEn) (F : FH hr) : (hr a 2 = some (a + 1) ∧ hr a 3 = some (a + 2)) ∧ (a_kd a = 9 ∧ a_kd (a + 1) = 20 ∧ a_kd (a + 2) = 20) ∧ a_ln E (a + 1) = 10 ∧ a_ln E (a + 2) = 10 := by
  have key : (dyn a 2 = false ∧ HR0 a 2 = some (a + 1)) ∧ (dyn a 3 = false ∧ HR0 a 3 = some (a + 2)) ∧ (a_kd a = 9 ∧ a_kd (a + 1) = 20 ∧ a_kd (a + 2) = 20) ∧ a_lnS (a + 1) = 10 ∧ a_lnS (a + 2) = 10 := by
    obtain ⟨b, k, D, hk, rfl⟩ := S
    rcases D with rfl | ⟨d, hd, rfl⟩
    · exact fam_s k hk
    · exact fam_S d hd k hk
  obtain ⟨f1, f2, f3, f4, f5⟩ := key
  exact ⟨⟨(F _ _ f1.1).trans f1.2, (F _ _ f2.1).trans f2.2⟩, f3, (ln_S (by omega)).trans f4, (ln_S (by omega)).trans f5⟩
theorem DB_49 : DB 49 := Or.inl rfl
theorem DB_d (h0 : 0 ≤ i) (h1 : i < 16) : DB (159 + 29 * i.toNat) := Or.inr ⟨i.toNat, by omega, rfl⟩
/-- a bone's cell -/
def BB (b : Nat) : Prop := b = 99 ∨ ∃ d, d < 10 ∧ b = 635 + 6 * d
theorem BB.r {b : Nat} (D : BB b) : 99 ≤ b ∧ b + 5 < 695 := by
  rcases D with D | ⟨d, D, rfl⟩ <;> omega
theorem BB.x {b : Nat} (D : BB b) (E : AEn) (F : FH hr) : (hr b 3 = some (b + 1) ∧ hr b 4 = some (b + 4) ∧ hr b 5 = some (b + 5) ∧ hr (b + 1) 0 = some (b + 1 + 1) ∧ hr (b + 1) 1 = some (b + 1 + 2)) ∧ (a_kd b = 0 ∧ a_kd (b + 1) = 4 ∧ a_kd (b + 1 + 1) = 20 ∧ a_kd (b + 1 + 2) = 20 ∧ a_kd (b + 4) = 20 ∧ a_kd (b + 5) = 20) ∧ a_ln E (b + 1 + 1) = 6 ∧ a_ln E (b + 1 + 2) = 6 ∧ a_ln E (b + 4) = 32 ∧ a_ln E (b + 5) = 32 := by
  have key : (dyn b 3 = false ∧ HR0 b 3 = some (b + 1)) ∧ (dyn b 4 = false ∧ HR0 b 4 = some (b + 4)) ∧ (dyn b 5 = false ∧ HR0 b 5 = some (b + 5)) ∧ (dyn (b + 1) 0 = false ∧ HR0 (b + 1) 0 = some (b + 1 + 1)) ∧ (dyn (b + 1) 1 = false ∧ HR0 (b + 1) 1 = some (b + 1 + 2)) ∧ (a_kd b = 0 ∧ a_kd (b + 1) = 4 ∧ a_kd (b + 1 + 1) = 20 ∧ a_kd (b + 1 + 2) = 20 ∧ a_kd (b + 4) = 20 ∧ a_kd (b + 5) = 20) ∧ a_lnS (b + 1 + 1) = 6 ∧ a_lnS (b + 1 + 2) = 6 ∧ a_lnS (b + 4) = 32 ∧ a_lnS (b + 5) = 32 := by
    rcases D with rfl | ⟨d, hd, rfl⟩
    · exact fam_b
    · exact fam_B d hd
  obtain ⟨f1, f2, f3, f4, f5, f6, g1, g2, g3, g4⟩ := key
  exact ⟨⟨(F _ _ f1.1).trans f1.2, (F _ _ f2.1).trans f2.2, (F _ _ f3.1).trans f3.2, (F _ _ f4.1).trans f4.2, (F _ _ f5.1).trans f5.2⟩, f6, (ln_S (by omega)).trans g1, (ln_S (by omega)).trans g2, (ln_S (by omega)).trans g3, (ln_S (by omega)).trans g4⟩
end FM
