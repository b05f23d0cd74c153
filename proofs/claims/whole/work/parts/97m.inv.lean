/-! what holds between calls -/
section IV
variable {E : AEn} {h h' : AHi} {hr hr' : AHr} {n : Nat}
theorem CpT.sm (C : CpT h) (e : Sm 1 h h') : CpT h' := by
  obtain ⟨t, b, ⟨c1, c2, c3, c4⟩, c5, c6⟩ := C
  refine ⟨t, b, ⟨c1, c2, (e 44 1 rfl).trans c3, fun i i0 i1 => (e.g rfl).trans (c4 i i0 i1)⟩, (e 704 2 rfl).trans c5, fun i i0 i1 => (e.g rfl).trans (c6 i i0 i1)⟩
theorem CpO.sm (C : CpO E h hr n) (e : Sm 2 h h') : CpO E h' hr n := by
  obtain ⟨o, b, r, cap, O, hc, c1, c2, ⟨c3, c4⟩, c5, c6⟩ := C
  refine ⟨o, b, r, cap, O, hc, c1, c2, ⟨(e 46 1 rfl).trans c3, fun i i0 i1 => (e.g ?_).trans (c4 i i0 i1)⟩, (e 704 7 rfl).trans c5, fun i i0 i1 => (e.g rfl).trans (c6 i i0 i1)⟩
  rcases hc with ⟨rfl, _⟩ | ⟨rfl, _⟩ <;> rfl
theorem CpO.rf (C : CpO E h hr n) (e : hr' 46 0 = hr 46 0) : CpO E h hr' n := by
  obtain ⟨o, b, r, cap, O, hc, c⟩ := C
  exact ⟨o, b, r, cap, ⟨e.trans O.1, O.2⟩, hc, c⟩
theorem Cp3.rf (C : Cp3 h hr) (e : ∀ d, d < 16 → ∀ q, hr' (159 + 29 * d + 1) q = hr (159 + 29 * d + 1) q) : Cp3 h hr' := by
  obtain ⟨D, ρ, C⟩ := C
  refine ⟨D, ρ, C.1, fun d d0 d1 => ?_⟩
  obtain ⟨P, c, m⟩ := C.2 d d0 d1
  refine ⟨⟨fun s hs => ?_, P.2⟩, c, m⟩
  rw [e _ (by omega)]
  exact P.1 s hs
theorem Cp12.rf (C : Cp12 h hr) (e : ∀ i, i < 10 → hr' (635 + 6 * i) 0 = hr (635 + 6 * i) 0) : Cp12 h hr' := by
  obtain ⟨N, b, c1, c2, c3, c4, c5⟩ := C
  refine ⟨N, b, c1, c2, c3, fun i i0 i1 => ?_, c5⟩
  obtain ⟨q1, q2⟩ := c4 i i0 i1
  exact ⟨⟨(e _ (by omega)).trans q1.1, q1.2⟩, q2⟩
theorem Cp16.rf (C : Cp16 h hr) (e : ∀ q, hr' 114 q = hr 114 q) : Cp16 h hr' := by
  obtain ⟨m, K, T, c1, c2, c3, c4, c5, c6⟩ := C
  refine ⟨m, K, T, c1, c2, c3, c4, fun i hi => ?_, fun i i0 i1 => ?_⟩
  · rw [e]
    exact c5 i hi
  · rw [e]
    exact c6 i i0 i1
theorem NN.rf (N : NN hr n) (e : hr' 46 0 = hr 46 0) : NN hr' n := by
  unfold NN
  rw [e]
  exact N
def INV (E : AEn) (h : AHi) (hr : AHr) (n : Nat) : Prop := (NN hr n ∧ FH hr) ∧ CpT h ∧ CpO E h hr n ∧ Cp3 h hr ∧ Cp4 h ∧ Cp5 h ∧ Cp6 h ∧ Cp7 h ∧ Cp8 h ∧ Cp9 h ∧ Cp10 h ∧ Cp11 h ∧ Cp12 h hr ∧ Cp13 h ∧ Cp14 h ∧ Cp15 h ∧ Cp16 h hr ∧ Cp17 h ∧ Cp18 h
theorem INV.up {x y : Nat} (I : INV E h hr n) (e : Kp x y h h') (g1 : 1 = x ∨ 1 = y → CpT h') (g2 : 2 = x ∨ 2 = y → CpO E h' hr n) (g3 : 3 = x ∨ 3 = y → Cp3 h' hr) (g4 : 4 = x ∨ 4 = y → Cp4 h') (g5 : 5 = x ∨ 5 = y → Cp5 h') (g6 : 6 = x ∨ 6 = y → Cp6 h') (g7 : 7 = x ∨ 7 = y → Cp7 h') (g8 : 8 = x ∨ 8 = y → Cp8 h') (g9 : 9 = x ∨ 9 = y → Cp9 h') (g10 : 10 = x ∨ 10 = y → Cp10 h') (g11 : 11 = x ∨ 11 = y → Cp11 h') (g12 : 12 = x ∨ 12 = y → Cp12 h' hr) (g13 : 13 = x ∨ 13 = y → Cp13 h') (g14 : 14 = x ∨ 14 = y → Cp14 h') (g15 : 15 = x ∨ 15 = y → Cp15 h') (g16 : 16 = x ∨ 16 = y → Cp16 h' hr) (g17 : 17 = x ∨ 17 = y → Cp17 h') (g18 : 18 = x ∨ 18 = y → Cp18 h') : INV E h' hr n := by
  obtain ⟨i0, i1, i2, i3, i4, i5, i6, i7, i8, i9, i10, i11, i12, i13, i14, i15, i16, i17, i18⟩ := I
  refine ⟨i0, ?_, ?_, ?_, ?_, ?_, ?_, ?_, ?_, ?_, ?_, ?_, ?_, ?_, ?_, ?_, ?_, ?_, ?_⟩
  · by_cases w : 1 = x ∨ 1 = y
    · exact g1 w
    · exact i1.sm (e.sm (by decide) (fun z => w (Or.inl z)) (fun z => w (Or.inr z)))
  · by_cases w : 2 = x ∨ 2 = y
    · exact g2 w
    · exact i2.sm (e.sm (by decide) (fun z => w (Or.inl z)) (fun z => w (Or.inr z)))
  · by_cases w : 3 = x ∨ 3 = y
    · exact g3 w
    · exact i3.sm (e.sm (by decide) (fun z => w (Or.inl z)) (fun z => w (Or.inr z)))
  · by_cases w : 4 = x ∨ 4 = y
    · exact g4 w
    · exact i4.sm (e.sm (by decide) (fun z => w (Or.inl z)) (fun z => w (Or.inr z)))
  · by_cases w : 5 = x ∨ 5 = y
    · exact g5 w
    · exact i5.sm (e.sm (by decide) (fun z => w (Or.inl z)) (fun z => w (Or.inr z)))
  · by_cases w : 6 = x ∨ 6 = y
    · exact g6 w
    · exact i6.sm (e.sm (by decide) (fun z => w (Or.inl z)) (fun z => w (Or.inr z)))
  · by_cases w : 7 = x ∨ 7 = y
    · exact g7 w
    · exact i7.sm (e.sm (by decide) (fun z => w (Or.inl z)) (fun z => w (Or.inr z)))
  · by_cases w : 8 = x ∨ 8 = y
    · exact g8 w
    · exact i8.sm (e.sm (by decide) (fun z => w (Or.inl z)) (fun z => w (Or.inr z)))
  · by_cases w : 9 = x ∨ 9 = y
    · exact g9 w
    · exact i9.sm (e.sm (by decide) (fun z => w (Or.inl z)) (fun z => w (Or.inr z)))
  · by_cases w : 10 = x ∨ 10 = y
    · exact g10 w
    · exact i10.sm (e.sm (by decide) (fun z => w (Or.inl z)) (fun z => w (Or.inr z)))
  · by_cases w : 11 = x ∨ 11 = y
    · exact g11 w
    · exact i11.sm (e.sm (by decide) (fun z => w (Or.inl z)) (fun z => w (Or.inr z)))
  · by_cases w : 12 = x ∨ 12 = y
    · exact g12 w
    · exact i12.sm (e.sm (by decide) (fun z => w (Or.inl z)) (fun z => w (Or.inr z)))
  · by_cases w : 13 = x ∨ 13 = y
    · exact g13 w
    · exact i13.sm (e.sm (by decide) (fun z => w (Or.inl z)) (fun z => w (Or.inr z)))
  · by_cases w : 14 = x ∨ 14 = y
    · exact g14 w
    · exact i14.sm (e.sm (by decide) (fun z => w (Or.inl z)) (fun z => w (Or.inr z)))
  · by_cases w : 15 = x ∨ 15 = y
    · exact g15 w
    · exact i15.sm (e.sm (by decide) (fun z => w (Or.inl z)) (fun z => w (Or.inr z)))
  · by_cases w : 16 = x ∨ 16 = y
    · exact g16 w
    · exact i16.sm (e.sm (by decide) (fun z => w (Or.inl z)) (fun z => w (Or.inr z)))
  · by_cases w : 17 = x ∨ 17 = y
    · exact g17 w
    · exact i17.sm (e.sm (by decide) (fun z => w (Or.inl z)) (fun z => w (Or.inr z)))
  · by_cases w : 18 = x ∨ 18 = y
    · exact g18 w
    · exact i18.sm (e.sm (by decide) (fun z => w (Or.inl z)) (fun z => w (Or.inr z)))
theorem INV.hrc (I : INV E h hr n) (F : FH hr') (e46 : hr' 46 0 = hr 46 0) (e3 : Cp3 h hr') (e12 : Cp12 h hr') (e16 : Cp16 h hr') : INV E h hr' n := by
  obtain ⟨i0, i1, i2, i3, i4, i5, i6, i7, i8, i9, i10, i11, i12, i13, i14, i15, i16, i17, i18⟩ := I
  exact ⟨⟨i0.1.rf e46, F⟩, i1, i2.rf e46, e3, i4, i5, i6, i7, i8, i9, i10, i11, e12, i13, i14, i15, e16, i17, i18⟩
/-- a call that changes references of one system -/
theorem INV.ref {x y : Nat} (I : INV E h hr n) (e : Kp x y h h') (F : FH hr') (N' : NN hr' n) (g1 : (1 = x ∨ 1 = y) ∨ False → CpT h') (g2 : (2 = x ∨ 2 = y) ∨ hr' 46 0 ≠ hr 46 0 → CpO E h' hr' n) (g3 : (3 = x ∨ 3 = y) ∨ ¬ (∀ d, d < 16 → ∀ q, hr' (159 + 29 * d + 1) q = hr (159 + 29 * d + 1) q) → Cp3 h' hr') (g4 : (4 = x ∨ 4 = y) ∨ False → Cp4 h') (g5 : (5 = x ∨ 5 = y) ∨ False → Cp5 h') (g6 : (6 = x ∨ 6 = y) ∨ False → Cp6 h') (g7 : (7 = x ∨ 7 = y) ∨ False → Cp7 h') (g8 : (8 = x ∨ 8 = y) ∨ False → Cp8 h') (g9 : (9 = x ∨ 9 = y) ∨ False → Cp9 h') (g10 : (10 = x ∨ 10 = y) ∨ False → Cp10 h') (g11 : (11 = x ∨ 11 = y) ∨ False → Cp11 h') (g12 : (12 = x ∨ 12 = y) ∨ ¬ (∀ i, i < 10 → hr' (635 + 6 * i) 0 = hr (635 + 6 * i) 0) → Cp12 h' hr') (g13 : (13 = x ∨ 13 = y) ∨ False → Cp13 h') (g14 : (14 = x ∨ 14 = y) ∨ False → Cp14 h') (g15 : (15 = x ∨ 15 = y) ∨ False → Cp15 h') (g16 : (16 = x ∨ 16 = y) ∨ ¬ (∀ q, hr' 114 q = hr 114 q) → Cp16 h' hr') (g17 : (17 = x ∨ 17 = y) ∨ False → Cp17 h') (g18 : (18 = x ∨ 18 = y) ∨ False → Cp18 h') : INV E h' hr' n := by
  obtain ⟨i0, i1, i2, i3, i4, i5, i6, i7, i8, i9, i10, i11, i12, i13, i14, i15, i16, i17, i18⟩ := I
  refine ⟨⟨N', F⟩, ?_, ?_, ?_, ?_, ?_, ?_, ?_, ?_, ?_, ?_, ?_, ?_, ?_, ?_, ?_, ?_, ?_, ?_⟩
  · by_cases w : 1 = x ∨ 1 = y
    · exact g1 (Or.inl w)
    · exact i1.sm (e.sm (by decide) (fun z => w (Or.inl z)) (fun z => w (Or.inr z)))
  · by_cases w : 2 = x ∨ 2 = y
    · exact g2 (Or.inl w)
    · by_cases v : hr' 46 0 ≠ hr 46 0
      · exact g2 (Or.inr v)
      · exact (i2.sm (e.sm (by decide) (fun z => w (Or.inl z)) (fun z => w (Or.inr z)))).rf (Classical.not_not.mp v)
  · by_cases w : 3 = x ∨ 3 = y
    · exact g3 (Or.inl w)
    · by_cases v : ¬ (∀ d, d < 16 → ∀ q, hr' (159 + 29 * d + 1) q = hr (159 + 29 * d + 1) q)
      · exact g3 (Or.inr v)
      · exact (i3.sm (e.sm (by decide) (fun z => w (Or.inl z)) (fun z => w (Or.inr z)))).rf (Classical.not_not.mp v)
  · by_cases w : 4 = x ∨ 4 = y
    · exact g4 (Or.inl w)
    · exact i4.sm (e.sm (by decide) (fun z => w (Or.inl z)) (fun z => w (Or.inr z)))
  · by_cases w : 5 = x ∨ 5 = y
    · exact g5 (Or.inl w)
    · exact i5.sm (e.sm (by decide) (fun z => w (Or.inl z)) (fun z => w (Or.inr z)))
  · by_cases w : 6 = x ∨ 6 = y
    · exact g6 (Or.inl w)
    · exact i6.sm (e.sm (by decide) (fun z => w (Or.inl z)) (fun z => w (Or.inr z)))
  · by_cases w : 7 = x ∨ 7 = y
    · exact g7 (Or.inl w)
    · exact i7.sm (e.sm (by decide) (fun z => w (Or.inl z)) (fun z => w (Or.inr z)))
  · by_cases w : 8 = x ∨ 8 = y
    · exact g8 (Or.inl w)
    · exact i8.sm (e.sm (by decide) (fun z => w (Or.inl z)) (fun z => w (Or.inr z)))
  · by_cases w : 9 = x ∨ 9 = y
    · exact g9 (Or.inl w)
    · exact i9.sm (e.sm (by decide) (fun z => w (Or.inl z)) (fun z => w (Or.inr z)))
  · by_cases w : 10 = x ∨ 10 = y
    · exact g10 (Or.inl w)
    · exact i10.sm (e.sm (by decide) (fun z => w (Or.inl z)) (fun z => w (Or.inr z)))
  · by_cases w : 11 = x ∨ 11 = y
    · exact g11 (Or.inl w)
    · exact i11.sm (e.sm (by decide) (fun z => w (Or.inl z)) (fun z => w (Or.inr z)))
  · by_cases w : 12 = x ∨ 12 = y
    · exact g12 (Or.inl w)
    · by_cases v : ¬ (∀ i, i < 10 → hr' (635 + 6 * i) 0 = hr (635 + 6 * i) 0)
      · exact g12 (Or.inr v)
      · exact (i12.sm (e.sm (by decide) (fun z => w (Or.inl z)) (fun z => w (Or.inr z)))).rf (Classical.not_not.mp v)
  · by_cases w : 13 = x ∨ 13 = y
    · exact g13 (Or.inl w)
    · exact i13.sm (e.sm (by decide) (fun z => w (Or.inl z)) (fun z => w (Or.inr z)))
  · by_cases w : 14 = x ∨ 14 = y
    · exact g14 (Or.inl w)
    · exact i14.sm (e.sm (by decide) (fun z => w (Or.inl z)) (fun z => w (Or.inr z)))
  · by_cases w : 15 = x ∨ 15 = y
    · exact g15 (Or.inl w)
    · exact i15.sm (e.sm (by decide) (fun z => w (Or.inl z)) (fun z => w (Or.inr z)))
  · by_cases w : 16 = x ∨ 16 = y
    · exact g16 (Or.inl w)
    · by_cases v : ¬ (∀ q, hr' 114 q = hr 114 q)
      · exact g16 (Or.inr v)
      · exact (i16.sm (e.sm (by decide) (fun z => w (Or.inl z)) (fun z => w (Or.inr z)))).rf (Classical.not_not.mp v)
  · by_cases w : 17 = x ∨ 17 = y
    · exact g17 (Or.inl w)
    · exact i17.sm (e.sm (by decide) (fun z => w (Or.inl z)) (fun z => w (Or.inr z)))
  · by_cases w : 18 = x ∨ 18 = y
    · exact g18 (Or.inl w)
    · exact i18.sm (e.sm (by decide) (fun z => w (Or.inl z)) (fun z => w (Or.inr z)))
theorem Pr2.mono {mC mM : Nat} {as : List Value} {P P' : AHi → AHr → Nat → Prop} (p : Pr2 E mC mM as h hr n P) (w : ∀ h' hr' n', P h' hr' n' → P' h' hr' n') : Pr2 E mC mM as h hr n P' := by
  unfold Pr2 at p ⊢
  unfold Sp at p ⊢
  refine Tm.mono p (fun r => ?_)
  rintro ⟨v, hv, q⟩
  exact ⟨v, hv, Tm.mono q (fun s z => ⟨z.1, w _ _ _ z.2⟩)⟩
theorem Ifeed (I : INV E h hr n) (x1 x2 x3 x4 x5 : Int32) : Pr2 E 133 213 [.int x1, .int x2, .int x3, .int x4, .int x5] h hr n (INV E) := by
  refine Pr2.mono (Pfeed (E := E) I.1.2 I.1.1.h I.2.1 x1 x2 x3 x4 x5) (fun h' hr' n' p => ?_)
  obtain ⟨_, rfl, rfl⟩ := id p
  refine I.up (x := 1) (y := 1) (p.1.2.mono fun a k q => ?_) (fun _ => p.1.1) (fun z => absurd z (by decide)) (fun z => absurd z (by decide)) (fun z => absurd z (by decide)) (fun z => absurd z (by decide)) (fun z => absurd z (by decide)) (fun z => absurd z (by decide)) (fun z => absurd z (by decide)) (fun z => absurd z (by decide)) (fun z => absurd z (by decide)) (fun z => absurd z (by decide)) (fun z => absurd z (by decide)) (fun z => absurd z (by decide)) (fun z => absurd z (by decide)) (fun z => absurd z (by decide)) (fun z => absurd z (by decide)) (fun z => absurd z (by decide)) (fun z => absurd z (by decide))
  unfold SFe at q
  rcases q with ⟨rfl, rfl⟩ | rfl | ⟨rfl, rfl⟩ | rfl
  · exact Or.inr (Or.inl rfl)
  · exact Or.inr (Or.inl rfl)
  · exact Or.inr (Or.inl rfl)
  · exact Or.inr (Or.inl rfl)
theorem Iend (I : INV E h hr n) (x1 : Int32) : Pr2 E 134 214 [.int x1] h hr n (INV E) := by
  refine Pr2.mono (Pend (E := E) I.1.2 I.1.1.h I.2.1 x1) (fun h' hr' n' p => ?_)
  obtain ⟨_, rfl, rfl⟩ := id p
  refine I.up (x := 1) (y := 1) (p.1.2.mono fun a k q => ?_) (fun _ => p.1.1) (fun z => absurd z (by decide)) (fun z => absurd z (by decide)) (fun z => absurd z (by decide)) (fun z => absurd z (by decide)) (fun z => absurd z (by decide)) (fun z => absurd z (by decide)) (fun z => absurd z (by decide)) (fun z => absurd z (by decide)) (fun z => absurd z (by decide)) (fun z => absurd z (by decide)) (fun z => absurd z (by decide)) (fun z => absurd z (by decide)) (fun z => absurd z (by decide)) (fun z => absurd z (by decide)) (fun z => absurd z (by decide)) (fun z => absurd z (by decide)) (fun z => absurd z (by decide))
  unfold SFe at q
  rcases q with ⟨rfl, rfl⟩ | rfl | ⟨rfl, rfl⟩ | rfl
  · exact Or.inr (Or.inl rfl)
  · exact Or.inr (Or.inl rfl)
  · exact Or.inr (Or.inl rfl)
  · exact Or.inr (Or.inl rfl)
theorem Iout (I : INV E h hr n) (x1 : Int32) : Pr2 E 135 215 [.int x1] h hr n (INV E) := by
  refine Pr2.mono (Pout (E := E) I.1.2 I.1.1.h I.2.2.1 x1) (fun h' hr' n' p => ?_)
  obtain ⟨rfl, rfl, rfl⟩ := p
  exact I
theorem Istroke (I : INV E h hr n) (x1 : Int32) : Pr2 E 136 216 [.int x1] h hr n (INV E) := by
  refine Pr2.mono (Pstroke (E := E) I.1.2 I.1.1.h I.2.2.2.1 I.2.1 x1) (fun h' hr' n' p => ?_)
  obtain ⟨_, rfl, rfl⟩ := id p
  exact I.up p.1.2 (fun _ => p.1.1.2) (fun z => absurd z (by decide)) (fun _ => p.1.1.1) (fun z => absurd z (by decide)) (fun z => absurd z (by decide)) (fun z => absurd z (by decide)) (fun z => absurd z (by decide)) (fun z => absurd z (by decide)) (fun z => absurd z (by decide)) (fun z => absurd z (by decide)) (fun z => absurd z (by decide)) (fun z => absurd z (by decide)) (fun z => absurd z (by decide)) (fun z => absurd z (by decide)) (fun z => absurd z (by decide)) (fun z => absurd z (by decide)) (fun z => absurd z (by decide)) (fun z => absurd z (by decide))
theorem Itake (I : INV E h hr n) (x1 x2 : Int32) : Pr2 E 140 228 [.int x1, .int x2] h hr n (INV E) := by
  refine Pr2.mono (Ptake (E := E) I.1.2 I.1.1.h I.2.2.2.1 x1 x2) (fun h' hr' n' p => ?_)
  obtain ⟨⟨p1, p2⟩, ⟨p3, p4⟩, rfl⟩ := p
  exact I.ref (x := 3) (y := 3) p2 p3 (I.1.1.rf (p4 46 0 (by omega))) (fun z => z.elim (fun w => absurd w (by decide)) False.elim) (fun z => z.elim (fun w => absurd w (by decide)) (fun w => (w (p4 46 0 (by omega))).elim)) (fun _ => p1) (fun z => z.elim (fun w => absurd w (by decide)) False.elim) (fun z => z.elim (fun w => absurd w (by decide)) False.elim) (fun z => z.elim (fun w => absurd w (by decide)) False.elim) (fun z => z.elim (fun w => absurd w (by decide)) False.elim) (fun z => z.elim (fun w => absurd w (by decide)) False.elim) (fun z => z.elim (fun w => absurd w (by decide)) False.elim) (fun z => z.elim (fun w => absurd w (by decide)) False.elim) (fun z => z.elim (fun w => absurd w (by decide)) False.elim) (fun z => z.elim (fun w => absurd w (by decide)) (fun w => absurd (fun i hi => p4 _ _ (by omega)) w)) (fun z => z.elim (fun w => absurd w (by decide)) False.elim) (fun z => z.elim (fun w => absurd w (by decide)) False.elim) (fun z => z.elim (fun w => absurd w (by decide)) False.elim) (fun z => z.elim (fun w => absurd w (by decide)) (fun w => absurd (fun q => p4 _ _ (by omega)) w)) (fun z => z.elim (fun w => absurd w (by decide)) False.elim) (fun z => z.elim (fun w => absurd w (by decide)) False.elim)
theorem Iwritten (I : INV E h hr n) (x1 : Int32) : Pr2 E 142 231 [.int x1] h hr n (INV E) := by
  refine Pr2.mono (Pwritten (E := E) I.1.2 I.1.1.h I.2.2.2.1 I.2.2.1 x1) (fun h' hr' n' p => ?_)
  obtain ⟨_, rfl, rfl⟩ := id p
  exact I.up p.1.2 (fun z => absurd z (by decide)) (fun _ => p.1.1) (fun z => absurd z (by decide)) (fun z => absurd z (by decide)) (fun z => absurd z (by decide)) (fun z => absurd z (by decide)) (fun z => absurd z (by decide)) (fun z => absurd z (by decide)) (fun z => absurd z (by decide)) (fun z => absurd z (by decide)) (fun z => absurd z (by decide)) (fun z => absurd z (by decide)) (fun z => absurd z (by decide)) (fun z => absurd z (by decide)) (fun z => absurd z (by decide)) (fun z => absurd z (by decide)) (fun z => absurd z (by decide)) (fun z => absurd z (by decide))
theorem Ifit (I : INV E h hr n) (x1 x2 x3 : Int32) : Pr2 E 143 234 [.int x1, .int x2, .int x3] h hr n (INV E) := by
  refine Pr2.mono (Pfit (E := E) I.1.2 I.1.1.h I.2.2.2.1 x1 x2 x3) (fun h' hr' n' p => ?_)
  obtain ⟨_, rfl, rfl⟩ := id p
  exact I.up p.1.2 (fun z => absurd z (by decide)) (fun z => absurd z (by decide)) (fun _ => p.1.1) (fun z => absurd z (by decide)) (fun z => absurd z (by decide)) (fun z => absurd z (by decide)) (fun z => absurd z (by decide)) (fun z => absurd z (by decide)) (fun z => absurd z (by decide)) (fun z => absurd z (by decide)) (fun z => absurd z (by decide)) (fun z => absurd z (by decide)) (fun z => absurd z (by decide)) (fun z => absurd z (by decide)) (fun z => absurd z (by decide)) (fun z => absurd z (by decide)) (fun z => absurd z (by decide)) (fun z => absurd z (by decide))
theorem Ierase (I : INV E h hr n) (x1 x2 x3 x4 : Int32) : Pr2 E 144 236 [.int x1, .int x2, .int x3, .int x4] h hr n (INV E) := by
  refine Pr2.mono (Perase (E := E) I.1.2 I.1.1.h I.2.2.2.1 x1 x2 x3 x4) (fun h' hr' n' p => ?_)
  obtain ⟨_, rfl, rfl⟩ := id p
  exact I.up p.1.2 (fun z => absurd z (by decide)) (fun z => absurd z (by decide)) (fun _ => p.1.1) (fun z => absurd z (by decide)) (fun z => absurd z (by decide)) (fun z => absurd z (by decide)) (fun z => absurd z (by decide)) (fun z => absurd z (by decide)) (fun z => absurd z (by decide)) (fun z => absurd z (by decide)) (fun z => absurd z (by decide)) (fun z => absurd z (by decide)) (fun z => absurd z (by decide)) (fun z => absurd z (by decide)) (fun z => absurd z (by decide)) (fun z => absurd z (by decide)) (fun z => absurd z (by decide)) (fun z => absurd z (by decide))
theorem Imeets (I : INV E h hr n) (x1 x2 x3 : Int32) : Pr2 E 147 245 [.int x1, .int x2, .int x3] h hr n (INV E) := by
  refine Pr2.mono (Pmeets (E := E) I.1.2 I.1.1.h I.2.2.2.1 x1 x2 x3) (fun h' hr' n' p => ?_)
  obtain ⟨_, rfl, rfl⟩ := id p
  exact I.up p.1.2 (fun z => absurd z (by decide)) (fun z => absurd z (by decide)) (fun z => absurd z (by decide)) (fun z => absurd z (by decide)) (fun z => absurd z (by decide)) (fun z => absurd z (by decide)) (fun z => absurd z (by decide)) (fun z => absurd z (by decide)) (fun z => absurd z (by decide)) (fun z => absurd z (by decide)) (fun z => absurd z (by decide)) (fun z => absurd z (by decide)) (fun z => absurd z (by decide)) (fun z => absurd z (by decide)) (fun z => absurd z (by decide)) (fun z => absurd z (by decide)) (fun z => absurd z (by decide)) (fun z => absurd z (by decide))
theorem Iarea (I : INV E h hr n) (x1 x2 : Int32) : Pr2 E 148 249 [.int x1, .int x2] h hr n (INV E) := by
  refine Pr2.mono (Parea (E := E) I.1.2 I.1.1.h I.2.2.2.1 x1 x2) (fun h' hr' n' p => ?_)
  obtain ⟨_, rfl, rfl⟩ := id p
  exact I.up p.1.2 (fun z => absurd z (by decide)) (fun z => absurd z (by decide)) (fun z => absurd z (by decide)) (fun z => absurd z (by decide)) (fun z => absurd z (by decide)) (fun z => absurd z (by decide)) (fun z => absurd z (by decide)) (fun z => absurd z (by decide)) (fun z => absurd z (by decide)) (fun z => absurd z (by decide)) (fun z => absurd z (by decide)) (fun z => absurd z (by decide)) (fun z => absurd z (by decide)) (fun z => absurd z (by decide)) (fun z => absurd z (by decide)) (fun z => absurd z (by decide)) (fun z => absurd z (by decide)) (fun z => absurd z (by decide))
theorem Ifill (I : INV E h hr n) (x1 x2 x3 x4 x5 : Int32) : Pr2 E 149 250 [.int x1, .int x2, .int x3, .int x4, .int x5] h hr n (INV E) := by
  refine Pr2.mono (Pfill (E := E) I.1.2 I.1.1.h I.2.2.2.1 I.2.2.2.2.1 x1 x2 x3 x4 x5) (fun h' hr' n' p => ?_)
  obtain ⟨_, rfl, rfl⟩ := id p
  exact I.up p.1.2 (fun z => absurd z (by decide)) (fun z => absurd z (by decide)) (fun z => absurd z (by decide)) (fun _ => p.1.1) (fun z => absurd z (by decide)) (fun z => absurd z (by decide)) (fun z => absurd z (by decide)) (fun z => absurd z (by decide)) (fun z => absurd z (by decide)) (fun z => absurd z (by decide)) (fun z => absurd z (by decide)) (fun z => absurd z (by decide)) (fun z => absurd z (by decide)) (fun z => absurd z (by decide)) (fun z => absurd z (by decide)) (fun z => absurd z (by decide)) (fun z => absurd z (by decide)) (fun z => absurd z (by decide))
theorem Iunfill (I : INV E h hr n) (x1 x2 : Int32) : Pr2 E 152 256 [.int x1, .int x2] h hr n (INV E) := by
  refine Pr2.mono (Punfill (E := E) I.1.2 I.1.1.h I.2.2.2.2.1 x1 x2) (fun h' hr' n' p => ?_)
  obtain ⟨_, rfl, rfl⟩ := id p
  exact I.up p.1.2 (fun z => absurd z (by decide)) (fun z => absurd z (by decide)) (fun z => absurd z (by decide)) (fun _ => p.1.1) (fun z => absurd z (by decide)) (fun z => absurd z (by decide)) (fun z => absurd z (by decide)) (fun z => absurd z (by decide)) (fun z => absurd z (by decide)) (fun z => absurd z (by decide)) (fun z => absurd z (by decide)) (fun z => absurd z (by decide)) (fun z => absurd z (by decide)) (fun z => absurd z (by decide)) (fun z => absurd z (by decide)) (fun z => absurd z (by decide)) (fun z => absurd z (by decide)) (fun z => absurd z (by decide))
theorem Iregion (I : INV E h hr n) (x1 x2 : Int32) : Pr2 E 154 259 [.int x1, .int x2] h hr n (INV E) := by
  refine Pr2.mono (Pregion (E := E) I.1.2 I.1.1.h I.2.2.2.1 I.2.2.2.2.1 x1 x2) (fun h' hr' n' p => ?_)
  obtain ⟨_, rfl, rfl⟩ := id p
  exact I.up p.1.2 (fun z => absurd z (by decide)) (fun z => absurd z (by decide)) (fun z => absurd z (by decide)) (fun z => absurd z (by decide)) (fun z => absurd z (by decide)) (fun z => absurd z (by decide)) (fun z => absurd z (by decide)) (fun z => absurd z (by decide)) (fun z => absurd z (by decide)) (fun z => absurd z (by decide)) (fun z => absurd z (by decide)) (fun z => absurd z (by decide)) (fun z => absurd z (by decide)) (fun z => absurd z (by decide)) (fun z => absurd z (by decide)) (fun z => absurd z (by decide)) (fun z => absurd z (by decide)) (fun z => absurd z (by decide))
theorem Ipaint (I : INV E h hr n) (x1 x2 x3 : Int32) : Pr2 E 155 260 [.int x1, .int x2, .int x3] h hr n (INV E) := by
  refine Pr2.mono (Ppaint (E := E) I.1.2 I.1.1.h I.2.2.2.1 I.2.2.2.2.1 x1 x2 x3) (fun h' hr' n' p => ?_)
  obtain ⟨_, rfl, rfl⟩ := id p
  exact I.up p.1.2 (fun z => absurd z (by decide)) (fun z => absurd z (by decide)) (fun z => absurd z (by decide)) (fun z => absurd z (by decide)) (fun z => absurd z (by decide)) (fun z => absurd z (by decide)) (fun z => absurd z (by decide)) (fun z => absurd z (by decide)) (fun z => absurd z (by decide)) (fun z => absurd z (by decide)) (fun z => absurd z (by decide)) (fun z => absurd z (by decide)) (fun z => absurd z (by decide)) (fun z => absurd z (by decide)) (fun z => absurd z (by decide)) (fun z => absurd z (by decide)) (fun z => absurd z (by decide)) (fun z => absurd z (by decide))
theorem Icolour (I : INV E h hr n) (x1 x2 x3 : Int32) : Pr2 E 156 262 [.int x1, .int x2, .int x3] h hr n (INV E) := by
  refine Pr2.mono (Pcolour (E := E) I.1.2 I.1.1.h I.2.2.2.2.2.1 x1 x2 x3) (fun h' hr' n' p => ?_)
  obtain ⟨_, rfl, rfl⟩ := id p
  exact I.up p.1.2 (fun z => absurd z (by decide)) (fun z => absurd z (by decide)) (fun z => absurd z (by decide)) (fun z => absurd z (by decide)) (fun _ => p.1.1) (fun z => absurd z (by decide)) (fun z => absurd z (by decide)) (fun z => absurd z (by decide)) (fun z => absurd z (by decide)) (fun z => absurd z (by decide)) (fun z => absurd z (by decide)) (fun z => absurd z (by decide)) (fun z => absurd z (by decide)) (fun z => absurd z (by decide)) (fun z => absurd z (by decide)) (fun z => absurd z (by decide)) (fun z => absurd z (by decide)) (fun z => absurd z (by decide))
theorem Isheet (I : INV E h hr n) (x1 : Int32) : Pr2 E 157 263 [.int x1] h hr n (INV E) := by
  refine Pr2.mono (Psheet (E := E) I.1.2 I.1.1.h I.2.2.2.2.2.2.1 I.2.1 x1) (fun h' hr' n' p => ?_)
  obtain ⟨_, rfl, rfl⟩ := id p
  exact I.up p.1.2 (fun _ => p.1.1.2) (fun z => absurd z (by decide)) (fun z => absurd z (by decide)) (fun z => absurd z (by decide)) (fun z => absurd z (by decide)) (fun _ => p.1.1.1) (fun z => absurd z (by decide)) (fun z => absurd z (by decide)) (fun z => absurd z (by decide)) (fun z => absurd z (by decide)) (fun z => absurd z (by decide)) (fun z => absurd z (by decide)) (fun z => absurd z (by decide)) (fun z => absurd z (by decide)) (fun z => absurd z (by decide)) (fun z => absurd z (by decide)) (fun z => absurd z (by decide)) (fun z => absurd z (by decide))
theorem Ishown (I : INV E h hr n) (x1 x2 : Int32) : Pr2 E 159 268 [.int x1, .int x2] h hr n (INV E) := by
  refine Pr2.mono (Pshown (E := E) I.1.2 I.1.1.h I.2.2.2.2.2.2.1 x1 x2) (fun h' hr' n' p => ?_)
  obtain ⟨_, rfl, rfl⟩ := id p
  exact I.up p.1.2 (fun z => absurd z (by decide)) (fun z => absurd z (by decide)) (fun z => absurd z (by decide)) (fun z => absurd z (by decide)) (fun z => absurd z (by decide)) (fun _ => p.1.1) (fun z => absurd z (by decide)) (fun z => absurd z (by decide)) (fun z => absurd z (by decide)) (fun z => absurd z (by decide)) (fun z => absurd z (by decide)) (fun z => absurd z (by decide)) (fun z => absurd z (by decide)) (fun z => absurd z (by decide)) (fun z => absurd z (by decide)) (fun z => absurd z (by decide)) (fun z => absurd z (by decide)) (fun z => absurd z (by decide))
theorem Istretch (I : INV E h hr n) (x1 x2 x3 : Int32) : Pr2 E 160 269 [.int x1, .int x2, .int x3] h hr n (INV E) := by
  refine Pr2.mono (Pstretch (E := E) I.1.2 I.1.1.h I.2.2.2.2.2.2.1 x1 x2 x3) (fun h' hr' n' p => ?_)
  obtain ⟨_, rfl, rfl⟩ := id p
  exact I.up p.1.2 (fun z => absurd z (by decide)) (fun z => absurd z (by decide)) (fun z => absurd z (by decide)) (fun z => absurd z (by decide)) (fun z => absurd z (by decide)) (fun _ => p.1.1) (fun z => absurd z (by decide)) (fun z => absurd z (by decide)) (fun z => absurd z (by decide)) (fun z => absurd z (by decide)) (fun z => absurd z (by decide)) (fun z => absurd z (by decide)) (fun z => absurd z (by decide)) (fun z => absurd z (by decide)) (fun z => absurd z (by decide)) (fun z => absurd z (by decide)) (fun z => absurd z (by decide)) (fun z => absurd z (by decide))
theorem Itold (I : INV E h hr n) (x1 : Int32) : Pr2 E 161 270 [.int x1] h hr n (INV E) := by
  refine Pr2.mono (Ptold (E := E) I.1.2 I.1.1.h I.2.2.2.2.2.2.1 I.2.2.1 x1) (fun h' hr' n' p => ?_)
  obtain ⟨_, rfl, rfl⟩ := id p
  exact I.up p.1.2 (fun z => absurd z (by decide)) (fun _ => p.1.1) (fun z => absurd z (by decide)) (fun z => absurd z (by decide)) (fun z => absurd z (by decide)) (fun z => absurd z (by decide)) (fun z => absurd z (by decide)) (fun z => absurd z (by decide)) (fun z => absurd z (by decide)) (fun z => absurd z (by decide)) (fun z => absurd z (by decide)) (fun z => absurd z (by decide)) (fun z => absurd z (by decide)) (fun z => absurd z (by decide)) (fun z => absurd z (by decide)) (fun z => absurd z (by decide)) (fun z => absurd z (by decide)) (fun z => absurd z (by decide))
theorem Imark (I : INV E h hr n) (x1 x2 : Int32) : Pr2 E 162 271 [.int x1, .int x2] h hr n (INV E) := by
  refine Pr2.mono (Pmark (E := E) I.1.2 I.1.1.h I.2.2.2.2.2.2.2.2.2.1 x1 x2) (fun h' hr' n' p => ?_)
  obtain ⟨_, rfl, rfl⟩ := id p
  exact I.up p.1.2 (fun z => absurd z (by decide)) (fun z => absurd z (by decide)) (fun z => absurd z (by decide)) (fun z => absurd z (by decide)) (fun z => absurd z (by decide)) (fun z => absurd z (by decide)) (fun z => absurd z (by decide)) (fun z => absurd z (by decide)) (fun _ => p.1.1) (fun z => absurd z (by decide)) (fun z => absurd z (by decide)) (fun z => absurd z (by decide)) (fun z => absurd z (by decide)) (fun z => absurd z (by decide)) (fun z => absurd z (by decide)) (fun z => absurd z (by decide)) (fun z => absurd z (by decide)) (fun z => absurd z (by decide))
theorem Iunmark (I : INV E h hr n) : Pr2 E 163 272 [] h hr n (INV E) := by
  refine Pr2.mono (Punmark (E := E) I.1.2 I.1.1.h I.2.2.2.2.2.2.2.2.2.1 ) (fun h' hr' n' p => ?_)
  obtain ⟨_, rfl, rfl⟩ := id p
  exact I.up p.1.2 (fun z => absurd z (by decide)) (fun z => absurd z (by decide)) (fun z => absurd z (by decide)) (fun z => absurd z (by decide)) (fun z => absurd z (by decide)) (fun z => absurd z (by decide)) (fun z => absurd z (by decide)) (fun z => absurd z (by decide)) (fun _ => p.1.1) (fun z => absurd z (by decide)) (fun z => absurd z (by decide)) (fun z => absurd z (by decide)) (fun z => absurd z (by decide)) (fun z => absurd z (by decide)) (fun z => absurd z (by decide)) (fun z => absurd z (by decide)) (fun z => absurd z (by decide)) (fun z => absurd z (by decide))
theorem Imatch (I : INV E h hr n) (x1 x2 : Int32) : Pr2 E 164 273 [.int x1, .int x2] h hr n (INV E) := by
  refine Pr2.mono (Pmatch (E := E) I.1.2 I.1.1.h I.2.2.2.1 I.2.2.2.2.2.2.2.2.2.1 I.2.2.2.2.2.2.2.2.2.2.1 x1 x2) (fun h' hr' n' p => ?_)
  obtain ⟨_, rfl, rfl⟩ := id p
  exact I.up p.1.2 (fun z => absurd z (by decide)) (fun z => absurd z (by decide)) (fun z => absurd z (by decide)) (fun z => absurd z (by decide)) (fun z => absurd z (by decide)) (fun z => absurd z (by decide)) (fun z => absurd z (by decide)) (fun z => absurd z (by decide)) (fun z => absurd z (by decide)) (fun _ => p.1.1) (fun z => absurd z (by decide)) (fun z => absurd z (by decide)) (fun z => absurd z (by decide)) (fun z => absurd z (by decide)) (fun z => absurd z (by decide)) (fun z => absurd z (by decide)) (fun z => absurd z (by decide)) (fun z => absurd z (by decide))
theorem Ipartner (I : INV E h hr n) (x1 : Int32) : Pr2 E 165 279 [.int x1] h hr n (INV E) := by
  refine Pr2.mono (Ppartner (E := E) I.1.2 I.1.1.h I.2.2.2.2.2.2.2.2.2.2.1 x1) (fun h' hr' n' p => ?_)
  obtain ⟨_, rfl, rfl⟩ := id p
  exact I.up p.1.2 (fun z => absurd z (by decide)) (fun z => absurd z (by decide)) (fun z => absurd z (by decide)) (fun z => absurd z (by decide)) (fun z => absurd z (by decide)) (fun z => absurd z (by decide)) (fun z => absurd z (by decide)) (fun z => absurd z (by decide)) (fun z => absurd z (by decide)) (fun _ => p.1.1) (fun z => absurd z (by decide)) (fun z => absurd z (by decide)) (fun z => absurd z (by decide)) (fun z => absurd z (by decide)) (fun z => absurd z (by decide)) (fun z => absurd z (by decide)) (fun z => absurd z (by decide)) (fun z => absurd z (by decide))
theorem Itween (I : INV E h hr n) (x1 x2 x3 x4 x5 : Int32) : Pr2 E 166 280 [.int x1, .int x2, .int x3, .int x4, .int x5] h hr n (INV E) := by
  refine Pr2.mono (Ptween (E := E) I.1.2 I.1.1.h I.2.2.2.1 I.2.2.2.2.1 I.2.2.2.2.2.2.2.2.2.1 x1 x2 x3 x4 x5) (fun h' hr' n' p => ?_)
  obtain ⟨_, rfl, rfl⟩ := id p
  exact I.up p.1.2 (fun z => absurd z (by decide)) (fun z => absurd z (by decide)) (fun _ => p.1.1.1) (fun _ => p.1.1.2) (fun z => absurd z (by decide)) (fun z => absurd z (by decide)) (fun z => absurd z (by decide)) (fun z => absurd z (by decide)) (fun z => absurd z (by decide)) (fun z => absurd z (by decide)) (fun z => absurd z (by decide)) (fun z => absurd z (by decide)) (fun z => absurd z (by decide)) (fun z => absurd z (by decide)) (fun z => absurd z (by decide)) (fun z => absurd z (by decide)) (fun z => absurd z (by decide)) (fun z => absurd z (by decide))
theorem Ibone (I : INV E h hr n) (x1 x2 x3 x4 : Int32) : Pr2 E 167 283 [.int x1, .int x2, .int x3, .int x4] h hr n (INV E) := by
  refine Pr2.mono (Pbone (E := E) I.1.2 I.1.1.h I.2.2.2.2.2.2.2.2.2.2.2.2.1 x1 x2 x3 x4) (fun h' hr' n' p => ?_)
  obtain ⟨⟨p1, p2⟩, ⟨p3, p4⟩, rfl⟩ := p
  exact I.ref (x := 12) (y := 12) p2 p3 (I.1.1.rf (p4 46 0 (by omega))) (fun z => z.elim (fun w => absurd w (by decide)) False.elim) (fun z => z.elim (fun w => absurd w (by decide)) (fun w => (w (p4 46 0 (by omega))).elim)) (fun z => z.elim (fun w => absurd w (by decide)) (fun w => absurd (fun d hd q => p4 _ _ (by omega)) w)) (fun z => z.elim (fun w => absurd w (by decide)) False.elim) (fun z => z.elim (fun w => absurd w (by decide)) False.elim) (fun z => z.elim (fun w => absurd w (by decide)) False.elim) (fun z => z.elim (fun w => absurd w (by decide)) False.elim) (fun z => z.elim (fun w => absurd w (by decide)) False.elim) (fun z => z.elim (fun w => absurd w (by decide)) False.elim) (fun z => z.elim (fun w => absurd w (by decide)) False.elim) (fun z => z.elim (fun w => absurd w (by decide)) False.elim) (fun _ => p1) (fun z => z.elim (fun w => absurd w (by decide)) False.elim) (fun z => z.elim (fun w => absurd w (by decide)) False.elim) (fun z => z.elim (fun w => absurd w (by decide)) False.elim) (fun z => z.elim (fun w => absurd w (by decide)) (fun w => absurd (fun q => p4 _ _ (by omega)) w)) (fun z => z.elim (fun w => absurd w (by decide)) False.elim) (fun z => z.elim (fun w => absurd w (by decide)) False.elim)
theorem Ipivot (I : INV E h hr n) (x1 x2 : Int32) : Pr2 E 170 284 [.int x1, .int x2] h hr n (INV E) := by
  refine Pr2.mono (Ppivot (E := E) I.1.2 I.1.1.h I.2.2.2.2.2.2.2.2.2.2.2.1 x1 x2) (fun h' hr' n' p => ?_)
  obtain ⟨_, rfl, rfl⟩ := id p
  exact I.up p.1.2 (fun z => absurd z (by decide)) (fun z => absurd z (by decide)) (fun z => absurd z (by decide)) (fun z => absurd z (by decide)) (fun z => absurd z (by decide)) (fun z => absurd z (by decide)) (fun z => absurd z (by decide)) (fun z => absurd z (by decide)) (fun z => absurd z (by decide)) (fun z => absurd z (by decide)) (fun _ => p.1.1) (fun z => absurd z (by decide)) (fun z => absurd z (by decide)) (fun z => absurd z (by decide)) (fun z => absurd z (by decide)) (fun z => absurd z (by decide)) (fun z => absurd z (by decide)) (fun z => absurd z (by decide))
theorem Ikey (I : INV E h hr n) (x1 x2 x3 : Int32) : Pr2 E 172 285 [.int x1, .int x2, .int x3] h hr n (INV E) := by
  refine Pr2.mono (Pkey (E := E) I.1.2 I.1.1.h I.2.2.2.2.2.2.2.2.2.2.2.2.1 x1 x2 x3) (fun h' hr' n' p => ?_)
  obtain ⟨_, rfl, rfl⟩ := id p
  exact I.up p.1.2 (fun z => absurd z (by decide)) (fun z => absurd z (by decide)) (fun z => absurd z (by decide)) (fun z => absurd z (by decide)) (fun z => absurd z (by decide)) (fun z => absurd z (by decide)) (fun z => absurd z (by decide)) (fun z => absurd z (by decide)) (fun z => absurd z (by decide)) (fun z => absurd z (by decide)) (fun z => absurd z (by decide)) (fun _ => p.1.1) (fun z => absurd z (by decide)) (fun z => absurd z (by decide)) (fun z => absurd z (by decide)) (fun z => absurd z (by decide)) (fun z => absurd z (by decide)) (fun z => absurd z (by decide))
theorem Iangle (I : INV E h hr n) (x1 x2 : Int32) : Pr2 E 174 290 [.int x1, .int x2] h hr n (INV E) := by
  refine Pr2.mono (Pangle (E := E) I.1.2 I.1.1.h I.2.2.2.2.2.2.2.2.2.2.2.2.1 x1 x2) (fun h' hr' n' p => ?_)
  obtain ⟨_, rfl, rfl⟩ := id p
  exact I.up p.1.2 (fun z => absurd z (by decide)) (fun z => absurd z (by decide)) (fun z => absurd z (by decide)) (fun z => absurd z (by decide)) (fun z => absurd z (by decide)) (fun z => absurd z (by decide)) (fun z => absurd z (by decide)) (fun z => absurd z (by decide)) (fun z => absurd z (by decide)) (fun z => absurd z (by decide)) (fun z => absurd z (by decide)) (fun z => absurd z (by decide)) (fun z => absurd z (by decide)) (fun z => absurd z (by decide)) (fun z => absurd z (by decide)) (fun z => absurd z (by decide)) (fun z => absurd z (by decide)) (fun z => absurd z (by decide))
theorem Iat (I : INV E h hr n) (x1 x2 x3 : Int32) : Pr2 E 175 293 [.int x1, .int x2, .int x3] h hr n (INV E) := by
  refine Pr2.mono (Pat (E := E) I.1.2 I.1.1.h I.2.2.2.2.2.2.2.2.2.2.2.2.1 I.2.2.2.2.2.2.2.2.2.2.2.1 x1 x2 x3) (fun h' hr' n' p => ?_)
  obtain ⟨_, rfl, rfl⟩ := id p
  exact I.up p.1.2 (fun z => absurd z (by decide)) (fun z => absurd z (by decide)) (fun z => absurd z (by decide)) (fun z => absurd z (by decide)) (fun z => absurd z (by decide)) (fun z => absurd z (by decide)) (fun z => absurd z (by decide)) (fun z => absurd z (by decide)) (fun z => absurd z (by decide)) (fun z => absurd z (by decide)) (fun z => absurd z (by decide)) (fun z => absurd z (by decide)) (fun z => absurd z (by decide)) (fun z => absurd z (by decide)) (fun z => absurd z (by decide)) (fun z => absurd z (by decide)) (fun z => absurd z (by decide)) (fun z => absurd z (by decide))
theorem Ireach (I : INV E h hr n) (x1 x2 x3 x4 : Int32) : Pr2 E 176 297 [.int x1, .int x2, .int x3, .int x4] h hr n (INV E) := by
  refine Pr2.mono (Preach (E := E) I.1.2 I.1.1.h I.2.2.2.2.2.2.2.2.2.2.2.2.1 I.2.2.2.2.2.2.2.2.2.2.2.1 x1 x2 x3 x4) (fun h' hr' n' p => ?_)
  obtain ⟨_, rfl, rfl⟩ := id p
  exact I.up p.1.2 (fun z => absurd z (by decide)) (fun z => absurd z (by decide)) (fun z => absurd z (by decide)) (fun z => absurd z (by decide)) (fun z => absurd z (by decide)) (fun z => absurd z (by decide)) (fun z => absurd z (by decide)) (fun z => absurd z (by decide)) (fun z => absurd z (by decide)) (fun z => absurd z (by decide)) (fun z => absurd z (by decide)) (fun _ => p.1.1) (fun z => absurd z (by decide)) (fun z => absurd z (by decide)) (fun z => absurd z (by decide)) (fun z => absurd z (by decide)) (fun z => absurd z (by decide)) (fun z => absurd z (by decide))
theorem Iswing (I : INV E h hr n) (x1 x2 x3 x4 : Int32) : Pr2 E 179 298 [.int x1, .int x2, .int x3, .int x4] h hr n (INV E) := by
  refine Pr2.mono (Pswing (E := E) I.1.2 I.1.1.h I.2.2.2.2.2.2.2.2.2.2.2.2.1 x1 x2 x3 x4) (fun h' hr' n' p => ?_)
  obtain ⟨_, rfl, rfl⟩ := id p
  exact I.up p.1.2 (fun z => absurd z (by decide)) (fun z => absurd z (by decide)) (fun z => absurd z (by decide)) (fun z => absurd z (by decide)) (fun z => absurd z (by decide)) (fun z => absurd z (by decide)) (fun z => absurd z (by decide)) (fun z => absurd z (by decide)) (fun z => absurd z (by decide)) (fun z => absurd z (by decide)) (fun z => absurd z (by decide)) (fun z => absurd z (by decide)) (fun z => absurd z (by decide)) (fun z => absurd z (by decide)) (fun z => absurd z (by decide)) (fun z => absurd z (by decide)) (fun z => absurd z (by decide)) (fun z => absurd z (by decide))
theorem Ilanguage (I : INV E h hr n) : Pr2 E 180 299 [] h hr n (INV E) := by
  refine Pr2.mono (Planguage (E := E) I.1.2 I.1.1.h I.2.2.2.2.2.2.2.2.2.2.2.2.2.1 I.2.1 ) (fun h' hr' n' p => ?_)
  obtain ⟨_, rfl, rfl⟩ := id p
  exact I.up p.1.2 (fun _ => p.1.1.2) (fun z => absurd z (by decide)) (fun z => absurd z (by decide)) (fun z => absurd z (by decide)) (fun z => absurd z (by decide)) (fun z => absurd z (by decide)) (fun z => absurd z (by decide)) (fun z => absurd z (by decide)) (fun z => absurd z (by decide)) (fun z => absurd z (by decide)) (fun z => absurd z (by decide)) (fun z => absurd z (by decide)) (fun _ => p.1.1.1) (fun z => absurd z (by decide)) (fun z => absurd z (by decide)) (fun z => absurd z (by decide)) (fun z => absurd z (by decide)) (fun z => absurd z (by decide))
theorem Iletter (I : INV E h hr n) (x1 : Int32) : Pr2 E 181 301 [.int x1] h hr n (INV E) := by
  refine Pr2.mono (Pletter (E := E) I.1.2 I.1.1.h I.2.2.2.2.2.2.2.2.2.2.2.2.2.1 x1) (fun h' hr' n' p => ?_)
  obtain ⟨_, rfl, rfl⟩ := id p
  exact I.up p.1.2 (fun z => absurd z (by decide)) (fun z => absurd z (by decide)) (fun z => absurd z (by decide)) (fun z => absurd z (by decide)) (fun z => absurd z (by decide)) (fun z => absurd z (by decide)) (fun z => absurd z (by decide)) (fun z => absurd z (by decide)) (fun z => absurd z (by decide)) (fun z => absurd z (by decide)) (fun z => absurd z (by decide)) (fun z => absurd z (by decide)) (fun _ => p.1.1) (fun z => absurd z (by decide)) (fun z => absurd z (by decide)) (fun z => absurd z (by decide)) (fun z => absurd z (by decide)) (fun z => absurd z (by decide))
theorem Ispeech (I : INV E h hr n) : Pr2 E 182 302 [] h hr n (INV E) := by
  refine Pr2.mono (Pspeech (E := E) I.1.2 I.1.1.h I.2.2.2.2.2.2.2.2.2.2.2.2.2.1 I.2.2.2.2.2.2.2.2.2.2.2.2.2.2.1 I.2.1 ) (fun h' hr' n' p => ?_)
  obtain ⟨_, rfl, rfl⟩ := id p
  exact I.up p.1.2 (fun _ => p.1.1.2) (fun z => absurd z (by decide)) (fun z => absurd z (by decide)) (fun z => absurd z (by decide)) (fun z => absurd z (by decide)) (fun z => absurd z (by decide)) (fun z => absurd z (by decide)) (fun z => absurd z (by decide)) (fun z => absurd z (by decide)) (fun z => absurd z (by decide)) (fun z => absurd z (by decide)) (fun z => absurd z (by decide)) (fun z => absurd z (by decide)) (fun _ => p.1.1.1) (fun z => absurd z (by decide)) (fun z => absurd z (by decide)) (fun z => absurd z (by decide)) (fun z => absurd z (by decide))
theorem Imouth (I : INV E h hr n) (x1 x2 : Int32) : Pr2 E 183 305 [.int x1, .int x2] h hr n (INV E) := by
  refine Pr2.mono (Pmouth (E := E) I.1.2 I.1.1.h I.2.2.2.2.2.2.2.2.2.2.2.2.2.2.1 x1 x2) (fun h' hr' n' p => ?_)
  obtain ⟨_, rfl, rfl⟩ := id p
  exact I.up p.1.2 (fun z => absurd z (by decide)) (fun z => absurd z (by decide)) (fun z => absurd z (by decide)) (fun z => absurd z (by decide)) (fun z => absurd z (by decide)) (fun z => absurd z (by decide)) (fun z => absurd z (by decide)) (fun z => absurd z (by decide)) (fun z => absurd z (by decide)) (fun z => absurd z (by decide)) (fun z => absurd z (by decide)) (fun z => absurd z (by decide)) (fun z => absurd z (by decide)) (fun _ => p.1.1) (fun z => absurd z (by decide)) (fun z => absurd z (by decide)) (fun z => absurd z (by decide)) (fun z => absurd z (by decide))
theorem Iblink (I : INV E h hr n) (x1 x2 : Int32) : Pr2 E 184 306 [.int x1, .int x2] h hr n (INV E) := by
  refine Pr2.mono (Pblink (E := E) I.1.2 I.1.1.h  x1 x2) (fun h' hr' n' p => ?_)
  obtain ⟨_, rfl, rfl⟩ := id p
  exact I.up p.1.2 (fun z => absurd z (by decide)) (fun z => absurd z (by decide)) (fun z => absurd z (by decide)) (fun z => absurd z (by decide)) (fun z => absurd z (by decide)) (fun z => absurd z (by decide)) (fun z => absurd z (by decide)) (fun z => absurd z (by decide)) (fun z => absurd z (by decide)) (fun z => absurd z (by decide)) (fun z => absurd z (by decide)) (fun z => absurd z (by decide)) (fun z => absurd z (by decide)) (fun z => absurd z (by decide)) (fun z => absurd z (by decide)) (fun z => absurd z (by decide)) (fun z => absurd z (by decide)) (fun z => absurd z (by decide))
theorem Icamera (I : INV E h hr n) (x1 x2 x3 x4 : Int32) : Pr2 E 185 307 [.int x1, .int x2, .int x3, .int x4] h hr n (INV E) := by
  refine Pr2.mono (Pcamera (E := E) I.1.2 I.1.1.h I.2.2.2.2.2.2.2.2.2.2.2.2.2.2.2.1 x1 x2 x3 x4) (fun h' hr' n' p => ?_)
  obtain ⟨_, rfl, rfl⟩ := id p
  exact I.up p.1.2 (fun z => absurd z (by decide)) (fun z => absurd z (by decide)) (fun z => absurd z (by decide)) (fun z => absurd z (by decide)) (fun z => absurd z (by decide)) (fun z => absurd z (by decide)) (fun z => absurd z (by decide)) (fun z => absurd z (by decide)) (fun z => absurd z (by decide)) (fun z => absurd z (by decide)) (fun z => absurd z (by decide)) (fun z => absurd z (by decide)) (fun z => absurd z (by decide)) (fun z => absurd z (by decide)) (fun _ => p.1.1) (fun z => absurd z (by decide)) (fun z => absurd z (by decide)) (fun z => absurd z (by decide))
theorem Idepth (I : INV E h hr n) (x1 x2 : Int32) : Pr2 E 186 308 [.int x1, .int x2] h hr n (INV E) := by
  refine Pr2.mono (Pdepth (E := E) I.1.2 I.1.1.h I.2.2.2.2.2.2.2.1 x1 x2) (fun h' hr' n' p => ?_)
  obtain ⟨_, rfl, rfl⟩ := id p
  exact I.up p.1.2 (fun z => absurd z (by decide)) (fun z => absurd z (by decide)) (fun z => absurd z (by decide)) (fun z => absurd z (by decide)) (fun z => absurd z (by decide)) (fun z => absurd z (by decide)) (fun _ => p.1.1) (fun z => absurd z (by decide)) (fun z => absurd z (by decide)) (fun z => absurd z (by decide)) (fun z => absurd z (by decide)) (fun z => absurd z (by decide)) (fun z => absurd z (by decide)) (fun z => absurd z (by decide)) (fun z => absurd z (by decide)) (fun z => absurd z (by decide)) (fun z => absurd z (by decide)) (fun z => absurd z (by decide))
theorem Iseen (I : INV E h hr n) (x1 x2 x3 x4 x5 : Int32) : Pr2 E 187 309 [.int x1, .int x2, .int x3, .int x4, .int x5] h hr n (INV E) := by
  refine Pr2.mono (Pseen (E := E) I.1.2 I.1.1.h I.2.2.2.2.2.2.2.2.2.2.2.2.2.2.2.1 I.2.2.2.2.2.2.2.1 x1 x2 x3 x4 x5) (fun h' hr' n' p => ?_)
  obtain ⟨_, rfl, rfl⟩ := id p
  exact I.up p.1.2 (fun z => absurd z (by decide)) (fun z => absurd z (by decide)) (fun z => absurd z (by decide)) (fun z => absurd z (by decide)) (fun z => absurd z (by decide)) (fun z => absurd z (by decide)) (fun z => absurd z (by decide)) (fun z => absurd z (by decide)) (fun z => absurd z (by decide)) (fun z => absurd z (by decide)) (fun z => absurd z (by decide)) (fun z => absurd z (by decide)) (fun z => absurd z (by decide)) (fun z => absurd z (by decide)) (fun z => absurd z (by decide)) (fun z => absurd z (by decide)) (fun z => absurd z (by decide)) (fun z => absurd z (by decide))
theorem IcutOff (I : INV E h hr n) (x1 x2 x3 : Int32) : Pr2 E 190 311 [.int x1, .int x2, .int x3] h hr n (INV E) := by
  refine Pr2.mono (PcutOff (E := E) I.1.2 I.1.1.h I.2.2.2.2.2.2.2.2.2.2.2.2.2.2.2.1 I.2.2.2.2.2.2.2.1 x1 x2 x3) (fun h' hr' n' p => ?_)
  obtain ⟨_, rfl, rfl⟩ := id p
  exact I.up p.1.2 (fun z => absurd z (by decide)) (fun z => absurd z (by decide)) (fun z => absurd z (by decide)) (fun z => absurd z (by decide)) (fun z => absurd z (by decide)) (fun z => absurd z (by decide)) (fun z => absurd z (by decide)) (fun z => absurd z (by decide)) (fun z => absurd z (by decide)) (fun z => absurd z (by decide)) (fun z => absurd z (by decide)) (fun z => absurd z (by decide)) (fun z => absurd z (by decide)) (fun z => absurd z (by decide)) (fun z => absurd z (by decide)) (fun z => absurd z (by decide)) (fun z => absurd z (by decide)) (fun z => absurd z (by decide))
theorem Iwiggle (I : INV E h hr n) (x1 x2 x3 x4 : Int32) : Pr2 E 192 314 [.int x1, .int x2, .int x3, .int x4] h hr n (INV E) := by
  refine Pr2.mono (Pwiggle (E := E) I.1.2 I.1.1.h I.2.2.2.2.2.2.2.2.1 x1 x2 x3 x4) (fun h' hr' n' p => ?_)
  obtain ⟨_, rfl, rfl⟩ := id p
  exact I.up p.1.2 (fun z => absurd z (by decide)) (fun z => absurd z (by decide)) (fun z => absurd z (by decide)) (fun z => absurd z (by decide)) (fun z => absurd z (by decide)) (fun z => absurd z (by decide)) (fun z => absurd z (by decide)) (fun _ => p.1.1) (fun z => absurd z (by decide)) (fun z => absurd z (by decide)) (fun z => absurd z (by decide)) (fun z => absurd z (by decide)) (fun z => absurd z (by decide)) (fun z => absurd z (by decide)) (fun z => absurd z (by decide)) (fun z => absurd z (by decide)) (fun z => absurd z (by decide)) (fun z => absurd z (by decide))
theorem Inode (I : INV E h hr n) : Pr2 E 193 315 [] h hr n (INV E) := by
  refine Pr2.mono (Pnode (E := E) I.1.2 I.1.1.h I.2.2.2.2.2.2.2.2.2.2.2.2.2.2.2.2.1 I.2.1 ) (fun h' hr' n' p => ?_)
  obtain ⟨⟨⟨p1, p5⟩, p2⟩, ⟨p3, p4⟩, rfl⟩ := p
  exact I.ref (x := 1) (y := 16) p2 p3 (I.1.1.rf (p4 46 0 (by omega))) (fun _ => p5) (fun z => z.elim (fun w => absurd w (by decide)) (fun w => (w (p4 46 0 (by omega))).elim)) (fun z => z.elim (fun w => absurd w (by decide)) (fun w => absurd (fun d hd q => p4 _ _ (by omega)) w)) (fun z => z.elim (fun w => absurd w (by decide)) False.elim) (fun z => z.elim (fun w => absurd w (by decide)) False.elim) (fun z => z.elim (fun w => absurd w (by decide)) False.elim) (fun z => z.elim (fun w => absurd w (by decide)) False.elim) (fun z => z.elim (fun w => absurd w (by decide)) False.elim) (fun z => z.elim (fun w => absurd w (by decide)) False.elim) (fun z => z.elim (fun w => absurd w (by decide)) False.elim) (fun z => z.elim (fun w => absurd w (by decide)) False.elim) (fun z => z.elim (fun w => absurd w (by decide)) (fun w => absurd (fun i hi => p4 _ _ (by omega)) w)) (fun z => z.elim (fun w => absurd w (by decide)) False.elim) (fun z => z.elim (fun w => absurd w (by decide)) False.elim) (fun z => z.elim (fun w => absurd w (by decide)) False.elim) (fun _ => p1) (fun z => z.elim (fun w => absurd w (by decide)) False.elim) (fun z => z.elim (fun w => absurd w (by decide)) False.elim)
theorem Iclear (I : INV E h hr n) : Pr2 E 194 322 [] h hr n (INV E) := by
  refine Pr2.mono (Pclear (E := E) I.1.2 I.1.1.h I.2.2.2.2.2.2.2.2.2.2.2.2.2.2.2.2.1 ) (fun h' hr' n' p => ?_)
  obtain ⟨_, rfl, rfl⟩ := id p
  exact I.up p.1.2 (fun z => absurd z (by decide)) (fun z => absurd z (by decide)) (fun z => absurd z (by decide)) (fun z => absurd z (by decide)) (fun z => absurd z (by decide)) (fun z => absurd z (by decide)) (fun z => absurd z (by decide)) (fun z => absurd z (by decide)) (fun z => absurd z (by decide)) (fun z => absurd z (by decide)) (fun z => absurd z (by decide)) (fun z => absurd z (by decide)) (fun z => absurd z (by decide)) (fun z => absurd z (by decide)) (fun z => absurd z (by decide)) (fun _ => p.1.1) (fun z => absurd z (by decide)) (fun z => absurd z (by decide))
theorem Isample (I : INV E h hr n) (x1 x2 x3 x4 : Int32) : Pr2 E 195 323 [.int x1, .int x2, .int x3, .int x4] h hr n (INV E) := by
  refine Pr2.mono (Psample (E := E) I.1.2 I.1.1.h I.2.2.2.1 I.2.2.2.2.1 I.2.2.2.2.2.1 I.2.2.2.2.2.2.1 I.2.2.2.2.2.2.2.1 I.2.2.2.2.2.2.2.2.1 I.2.2.2.2.2.2.2.2.2.2.2.2.2.2.2.1 I.2.2.2.2.2.2.2.2.2.2.2.2.2.2.2.2.1 x1 x2 x3 x4) (fun h' hr' n' p => ?_)
  obtain ⟨_, rfl, rfl⟩ := id p
  exact I.up p.1.2 (fun z => absurd z (by decide)) (fun z => absurd z (by decide)) (fun z => absurd z (by decide)) (fun z => absurd z (by decide)) (fun z => absurd z (by decide)) (fun z => absurd z (by decide)) (fun z => absurd z (by decide)) (fun z => absurd z (by decide)) (fun z => absurd z (by decide)) (fun z => absurd z (by decide)) (fun z => absurd z (by decide)) (fun z => absurd z (by decide)) (fun z => absurd z (by decide)) (fun z => absurd z (by decide)) (fun z => absurd z (by decide)) (fun z => absurd z (by decide)) (fun z => absurd z (by decide)) (fun z => absurd z (by decide))
theorem Idrawn (I : INV E h hr n) (x1 x2 : Int32) : Pr2 E 202 330 [.int x1, .int x2] h hr n (INV E) := by
  refine Pr2.mono (Pdrawn (E := E) I.1.2 I.1.1.h I.2.2.2.1 I.2.2.2.2.1 I.2.2.2.2.2.1 I.2.2.2.2.2.2.1 I.2.2.2.2.2.2.2.1 I.2.2.2.2.2.2.2.2.1 I.2.2.2.2.2.2.2.2.2.2.2.2.2.2.2.1 I.2.2.2.2.2.2.2.2.2.2.2.2.2.2.2.2.1 x1 x2) (fun h' hr' n' p => ?_)
  obtain ⟨_, rfl, rfl⟩ := id p
  exact I.up p.1.2 (fun z => absurd z (by decide)) (fun z => absurd z (by decide)) (fun z => absurd z (by decide)) (fun z => absurd z (by decide)) (fun z => absurd z (by decide)) (fun z => absurd z (by decide)) (fun z => absurd z (by decide)) (fun z => absurd z (by decide)) (fun z => absurd z (by decide)) (fun z => absurd z (by decide)) (fun z => absurd z (by decide)) (fun z => absurd z (by decide)) (fun z => absurd z (by decide)) (fun z => absurd z (by decide)) (fun z => absurd z (by decide)) (fun z => absurd z (by decide)) (fun z => absurd z (by decide)) (fun z => absurd z (by decide))
theorem Ifilm (I : INV E h hr n) (x1 x2 x3 : Int32) : Pr2 E 203 331 [.int x1, .int x2, .int x3] h hr n (INV E) := by
  refine Pr2.mono (Pfilm (E := E) I.1.2 I.1.1 I.2.2.2.1 I.2.2.2.2.1 I.2.2.2.2.2.1 I.2.2.2.2.2.2.1 I.2.2.2.2.2.2.2.1 I.2.2.2.2.2.2.2.2.1 I.2.2.2.2.2.2.2.2.2.2.2.2.2.2.2.1 I.2.2.2.2.2.2.2.2.2.2.2.2.2.2.2.2.1 I.2.2.2.2.2.2.2.2.2.2.2.2.2.2.2.2.2.1 I.2.2.1 x1 x2 x3) (fun h' hr' n' p => ?_)
  obtain ⟨⟨p1, p2, p3⟩, p4, p5, p6⟩ := p
  refine ⟨⟨p4, p5⟩, ?_⟩
  obtain ⟨i0, i1, i2, i3, i4, i5, i6, i7, i8, i9, i10, i11, i12, i13, i14, i15, i16, i17, i18⟩ := I
  have sm : ∀ s, s ≠ 0 → s ≠ 2 → s ≠ 17 → Sm s h h' := fun s h0 h2 h17 => p3.sm h0 h2 h17
  exact ⟨(i1.sm (sm 1 (by decide) (by decide) (by decide))), p2, (i3.sm (sm 3 (by decide) (by decide) (by decide))).rf (fun d hd q => p6 _ _ (by omega)), (i4.sm (sm 4 (by decide) (by decide) (by decide))), (i5.sm (sm 5 (by decide) (by decide) (by decide))), (i6.sm (sm 6 (by decide) (by decide) (by decide))), (i7.sm (sm 7 (by decide) (by decide) (by decide))), (i8.sm (sm 8 (by decide) (by decide) (by decide))), (i9.sm (sm 9 (by decide) (by decide) (by decide))), (i10.sm (sm 10 (by decide) (by decide) (by decide))), (i11.sm (sm 11 (by decide) (by decide) (by decide))), (i12.sm (sm 12 (by decide) (by decide) (by decide))).rf (fun i hi => p6 _ _ (by omega)), (i13.sm (sm 13 (by decide) (by decide) (by decide))), (i14.sm (sm 14 (by decide) (by decide) (by decide))), (i15.sm (sm 15 (by decide) (by decide) (by decide))), (i16.sm (sm 16 (by decide) (by decide) (by decide))).rf (fun q => p6 _ _ (by omega)), p1, (i18.sm (sm 18 (by decide) (by decide) (by decide)))⟩
theorem Iplayed (I : INV E h hr n) (x1 x2 x3 : Int32) : Pr2 E 204 333 [.int x1, .int x2, .int x3] h hr n (INV E) := by
  refine Pr2.mono (Pplayed (E := E) I.1.2 I.1.1.h I.2.2.2.2.2.2.2.2.2.2.2.2.2.2.2.2.2.1 x1 x2 x3) (fun h' hr' n' p => ?_)
  obtain ⟨_, rfl, rfl⟩ := id p
  exact I.up p.1.2 (fun z => absurd z (by decide)) (fun z => absurd z (by decide)) (fun z => absurd z (by decide)) (fun z => absurd z (by decide)) (fun z => absurd z (by decide)) (fun z => absurd z (by decide)) (fun z => absurd z (by decide)) (fun z => absurd z (by decide)) (fun z => absurd z (by decide)) (fun z => absurd z (by decide)) (fun z => absurd z (by decide)) (fun z => absurd z (by decide)) (fun z => absurd z (by decide)) (fun z => absurd z (by decide)) (fun z => absurd z (by decide)) (fun z => absurd z (by decide)) (fun _ => p.1.1) (fun z => absurd z (by decide))
theorem Iflicker (I : INV E h hr n) (x1 x2 : Int32) : Pr2 E 205 334 [.int x1, .int x2] h hr n (INV E) := by
  refine Pr2.mono (Pflicker (E := E) I.1.2 I.1.1.h I.2.2.2.1 I.2.2.2.2.1 I.2.2.2.2.2.1 I.2.2.2.2.2.2.1 I.2.2.2.2.2.2.2.1 I.2.2.2.2.2.2.2.2.1 I.2.2.2.2.2.2.2.2.2.2.2.2.2.2.2.1 I.2.2.2.2.2.2.2.2.2.2.2.2.2.2.2.2.1 x1 x2) (fun h' hr' n' p => ?_)
  obtain ⟨_, rfl, rfl⟩ := id p
  exact I.up p.1.2 (fun z => absurd z (by decide)) (fun z => absurd z (by decide)) (fun z => absurd z (by decide)) (fun z => absurd z (by decide)) (fun z => absurd z (by decide)) (fun z => absurd z (by decide)) (fun z => absurd z (by decide)) (fun z => absurd z (by decide)) (fun z => absurd z (by decide)) (fun z => absurd z (by decide)) (fun z => absurd z (by decide)) (fun z => absurd z (by decide)) (fun z => absurd z (by decide)) (fun z => absurd z (by decide)) (fun z => absurd z (by decide)) (fun z => absurd z (by decide)) (fun z => absurd z (by decide)) (fun z => absurd z (by decide))
theorem Itrack (I : INV E h hr n) (x1 x2 : Int32) : Pr2 E 206 335 [.int x1, .int x2] h hr n (INV E) := by
  refine Pr2.mono (Ptrack (E := E) I.1.2 I.1.1.h I.2.2.2.2.2.2.2.2.2.2.2.2.2.2.2.2.2.2 I.2.1 x1 x2) (fun h' hr' n' p => ?_)
  obtain ⟨_, rfl, rfl⟩ := id p
  exact I.up p.1.2 (fun _ => p.1.1.2) (fun z => absurd z (by decide)) (fun z => absurd z (by decide)) (fun z => absurd z (by decide)) (fun z => absurd z (by decide)) (fun z => absurd z (by decide)) (fun z => absurd z (by decide)) (fun z => absurd z (by decide)) (fun z => absurd z (by decide)) (fun z => absurd z (by decide)) (fun z => absurd z (by decide)) (fun z => absurd z (by decide)) (fun z => absurd z (by decide)) (fun z => absurd z (by decide)) (fun z => absurd z (by decide)) (fun z => absurd z (by decide)) (fun z => absurd z (by decide)) (fun _ => p.1.1.1)
theorem Imix (I : INV E h hr n) (x1 : Int32) : Pr2 E 208 336 [.int x1] h hr n (INV E) := by
  refine Pr2.mono (Pmix (E := E) I.1.2 I.1.1.h I.2.2.2.2.2.2.2.2.2.2.2.2.2.2.2.2.2.2 x1) (fun h' hr' n' p => ?_)
  obtain ⟨_, rfl, rfl⟩ := id p
  exact I.up p.1.2 (fun z => absurd z (by decide)) (fun z => absurd z (by decide)) (fun z => absurd z (by decide)) (fun z => absurd z (by decide)) (fun z => absurd z (by decide)) (fun z => absurd z (by decide)) (fun z => absurd z (by decide)) (fun z => absurd z (by decide)) (fun z => absurd z (by decide)) (fun z => absurd z (by decide)) (fun z => absurd z (by decide)) (fun z => absurd z (by decide)) (fun z => absurd z (by decide)) (fun z => absurd z (by decide)) (fun z => absurd z (by decide)) (fun z => absurd z (by decide)) (fun z => absurd z (by decide)) (fun _ => p.1.1)
theorem Icount (I : INV E h hr n) (x1 : Int32) : Pr2 E 209 337 [.int x1] h hr n (INV E) := by
  refine Pr2.mono (Pcount (E := E) I.1.2 I.1.1.h I.2.2.2.1 I.2.2.2.2.1 I.2.2.2.2.2.2.2.2.2.1 I.2.2.2.2.2.2.2.2.2.2.2.2.1 I.2.2.2.2.2.2.2.2.2.2.2.2.2.2.1 I.2.2.2.2.2.2.2.2.2.2.2.2.2.2.2.1 I.2.2.2.2.2.2.2.2.2.2.2.2.2.2.2.2.1 I.2.2.2.2.2.2.2.2.2.2.2.2.2.2.2.2.2.1 I.2.1 x1) (fun h' hr' n' p => ?_)
  obtain ⟨_, rfl, rfl⟩ := id p
  exact I.up p.1.2 (fun z => absurd z (by decide)) (fun z => absurd z (by decide)) (fun z => absurd z (by decide)) (fun z => absurd z (by decide)) (fun z => absurd z (by decide)) (fun z => absurd z (by decide)) (fun z => absurd z (by decide)) (fun z => absurd z (by decide)) (fun z => absurd z (by decide)) (fun z => absurd z (by decide)) (fun z => absurd z (by decide)) (fun z => absurd z (by decide)) (fun z => absurd z (by decide)) (fun z => absurd z (by decide)) (fun z => absurd z (by decide)) (fun z => absurd z (by decide)) (fun z => absurd z (by decide)) (fun z => absurd z (by decide))
end IV
