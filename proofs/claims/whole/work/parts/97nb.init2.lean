/-! new objects: all that is asked holds -/
theorem LI_z {a k : Nat} (h : kz a k = false) : LI litI a k = J 0 := by
  unfold LI
  have : litI.find? (fun e => Nat.beq e.1 a && Nat.beq e.2.1 k) = none := by
    rw [List.find?_eq_none]
    intro e he q
    have h2 := List.all_eq_true.mp in4 e he
    have h3 := (Bool.and_eq_true _ _).mp q
    rw [Nat.eq_of_beq_eq_true h3.1, Nat.eq_of_beq_eq_true h3.2, h] at h2
    cases h2
  rw [this]
  rfl
theorem nbf {a b : Nat} (h : a ≠ b) : Nat.beq a b = false := by
  cases e : Nat.beq a b with
  | false => rfl
  | true => exact absurd (Nat.eq_of_beq_eq_true e) h
theorem kz_f {a k : Nat} (h : a ≠ 43 ∧ ¬ (86 ≤ a ∧ a < 90) ∧ ¬ (623 ≤ a ∧ a < 635) ∧ a ≠ 704 ∧ a ≠ 733 ∧ a ≠ 760) : kz a k = false := by
  obtain ⟨h1, h2, h3, h4, h5, h6⟩ := h
  have e2 : (Nat.ble 86 a && Nat.blt a 90) = false := by
    cases e : (Nat.ble 86 a && Nat.blt a 90) with
    | false => rfl
    | true =>
      have w := (Bool.and_eq_true _ _).mp e
      have w1 : 86 ≤ a := Nat.le_of_ble_eq_true w.1
      have w2 : a < 90 := Nat.le_of_ble_eq_true w.2
      omega
  have e3 : (Nat.ble 623 a && Nat.blt a 635) = false := by
    cases e : (Nat.ble 623 a && Nat.blt a 635) with
    | false => rfl
    | true =>
      have w := (Bool.and_eq_true _ _).mp e
      have w1 : 623 ≤ a := Nat.le_of_ble_eq_true w.1
      have w2 : a < 635 := Nat.le_of_ble_eq_true w.2
      omega
  unfold kz
  rw [nbf h1, e2, e3, nbf h4, nbf h5, nbf h6]
  rfl
theorem zf {a k : Nat} (h : a ≠ 43 ∧ ¬ (86 ≤ a ∧ a < 90) ∧ ¬ (623 ≤ a ∧ a < 635) ∧ a ≠ 704 ∧ a ≠ 733 ∧ a ≠ 760) : LI litI a k = J 0 := LI_z (kz_f h)
theorem zg {a : Nat} {i : Int} (h : a ≠ 43 ∧ ¬ (86 ≤ a ∧ a < 90) ∧ ¬ (623 ≤ a ∧ a < 635) ∧ a ≠ 704 ∧ a ≠ 733 ∧ a ≠ 760) : gA (LI litI) a i = J 0 := LI_z (kz_f h)
theorem FH_new : FH (LR litR) := by
  have h1 : ∀ e ∈ hrT, LR litR e.1 e.2.1 = some e.2.2 := by
    intro e he
    obtain ⟨i, hi, hg⟩ := List.getElem_of_mem he
    have key : ∀ j, in1 j = true → 100 * j ≤ i → i < 100 * j + 100 → LR litR e.1 e.2.1 = some e.2.2 := fun j hj g0 g1 => by
      refine obq_e (List.all_eq_true.mp hj e ?_)
      refine List.mem_of_getElem? (i := i - 100 * j) ?_
      rw [List.getElem?_take, if_pos (by omega), List.getElem?_drop, show 100 * j + (i - 100 * j) = i by omega, List.getElem?_eq_getElem hi, hg]
    have len := in1_7
    rcases (show i < 100 ∨ (100 ≤ i ∧ i < 200) ∨ (200 ≤ i ∧ i < 300) ∨ (300 ≤ i ∧ i < 400) ∨ (400 ≤ i ∧ i < 500) ∨ (500 ≤ i ∧ i < 600) ∨ (600 ≤ i ∧ i < 700) by omega) with w | w | w | w | w | w | w
    · exact key 0 in1_0 (by omega) (by omega)
    · exact key 1 in1_1 (by omega) (by omega)
    · exact key 2 in1_2 (by omega) (by omega)
    · exact key 3 in1_3 (by omega) (by omega)
    · exact key 4 in1_4 (by omega) (by omega)
    · exact key 5 in1_5 (by omega) (by omega)
    · exact key 6 in1_6 (by omega) (by omega)
  have h2 : ∀ e ∈ litR, dyn e.1 e.2.1 = true ∨ HR0 e.1 e.2.1 = some e.2.2 := by
    intro e he
    have key : ∀ l, in2 l = true → e ∈ l → dyn e.1 e.2.1 = true ∨ HR0 e.1 e.2.1 = some e.2.2 := fun l hl hm => by
      rcases (Bool.or_eq_true _ _).mp (List.all_eq_true.mp hl e hm) with w | w
      · exact Or.inl w
      · exact Or.inr (obq_e w)
    unfold litR at he
    simp only [List.mem_append] at he
    rcases he with ((((((w | w) | w) | w) | w) | w) | w) | w
    · exact key _ in2_0 w
    · exact key _ in2_1 w
    · exact key _ in2_2 w
    · exact key _ in2_3 w
    · exact key _ in2_4 w
    · exact key _ in2_5 w
    · exact key _ in2_6 w
    · exact key _ in2_7 w
  have fnd : ∀ {l : LgR} {a k v : Nat}, (l.find? (fun e => Nat.beq e.1 a && Nat.beq e.2.1 k)).map (fun e => e.2.2) = some v → ∃ e ∈ l, (e.1 = a ∧ e.2.1 = k) ∧ e.2.2 = v := fun {l a k v} h => by
    obtain ⟨e, he, hv⟩ := Option.map_eq_some_iff.mp h
    have hk0 : (Nat.beq e.1 a && Nat.beq e.2.1 k) = true := List.find?_some (p := fun e : Nat × Nat × Nat => Nat.beq e.1 a && Nat.beq e.2.1 k) he
    have hk := (Bool.and_eq_true _ _).mp hk0
    exact ⟨e, List.mem_of_find?_eq_some he, ⟨Nat.eq_of_beq_eq_true hk.1, Nat.eq_of_beq_eq_true hk.2⟩, hv⟩
  intro a k hd
  cases hL : LR litR a k with
  | some v =>
    obtain ⟨e, he, ⟨e1, e2⟩, e3⟩ := fnd hL
    rcases h2 e he with w | w
    · rw [e1, e2, hd] at w
      cases w
    · rw [e1, e2, e3] at w
      exact w.symm
  | none =>
    cases hH : HR0 a k with
    | none => rfl
    | some v =>
      obtain ⟨e, he, ⟨e1, e2⟩, e3⟩ := fnd hH
      have w := h1 e he
      rw [e1, e2, hL] at w
      cases w
theorem INV_new (E : AEn) : INV E (LI litI) (LR litR) 775 := by
  have zL : ∀ l k : Nat, l < 4 → k ≠ 4 → LI litI (623 + 3 * l) k = J 0 := fun l k hl hk => LI_z (by
    have e1 : (Nat.ble 86 (623 + 3 * l) && Nat.blt (623 + 3 * l) 90) = false := by
      rcases (show l = 0 ∨ l = 1 ∨ l = 2 ∨ l = 3 by omega) with rfl | rfl | rfl | rfl <;> rfl
    unfold kz
    rw [nbf (show 623 + 3 * l ≠ 43 by omega), e1, nbf hk, nbf (show 623 + 3 * l ≠ 704 by omega), nbf (show 623 + 3 * l ≠ 733 by omega), nbf (show 623 + 3 * l ≠ 760 by omega), Bool.and_false]
    rfl)
  have z704 : ∀ k, k ≠ 51 → k ≠ 52 → LI litI 704 k = J 0 := fun k h1 h2 => LI_z (by
    unfold kz
    rw [nbf h1, nbf h2]
    rfl)
  have z43 : ∀ k, k ≠ 11 → k ≠ 12 → LI litI 43 k = J 0 := fun k h1 h2 => LI_z (by
    unfold kz
    rw [nbf h1, nbf h2]
    rfl)
  have kr : ∀ lo hi : Int, ∀ cap : Nat, KR cap lo hi (0, fun _ => 0, fun _ => 0) := fun lo hi cap => ⟨⟨Int.le_refl _, by show (0 : Int) ≤ (cap : Int); omega⟩, fun i i0 i1 => by have : i < 0 := i1; omega, fun i j i0 i1 i2 => by have : j < 0 := i2; omega⟩
  have ke : KE (0, fun _ => 0, fun _ => 0) (0, fun _ => 0, fun _ => 0) := ⟨rfl, fun i i0 i1 => by have : i < 0 := i1; omega, fun i i0 i1 => by have : i < 0 := i1; omega, fun i j i0 i1 i2 => by have : j < 0 := i2; omega⟩
  have n46 : (LR litR) 46 0 = some 47 := in3_a
  refine ⟨⟨Or.inl ⟨rfl, n46⟩, FH_new⟩, ?_, ?_, ?_, ?_, ?_, ?_, ?_, ?_, ?_, ?_, ?_, ?_, ?_, ?_, ?_, ?_, ?_, ?_⟩
  · exact ⟨0, fun _ => 0, ⟨by omega, fun _ => by dsimp only; omega, zf (by omega), fun i i0 i1 => by omega⟩, z704 _ (by decide) (by decide), fun i i0 i1 => by omega⟩
  · exact ⟨0, fun _ => 0, 47, 512, ⟨n46, by decide, by decide, by decide, by decide +kernel, by decide, by decide, rfl, by decide, by decide, by decide⟩, Or.inl ⟨rfl, rfl⟩, by omega, fun _ => by dsimp only; omega, ⟨zf (by omega), fun i i0 i1 => by omega⟩, z704 _ (by decide) (by decide), fun i i0 i1 => by omega⟩
  · refine ⟨fun _ => (0, fun _ => st0), fun d s => 159 + 29 * d.toNat + 5 + 3 * s, fun d => ⟨by dsimp only; omega, fun s => st0_r⟩, fun d d0 d1 => ⟨⟨fun s hs => ⟨?_, s, hs, rfl⟩, fun s t hs ht q => by dsimp only at q; omega⟩, ⟨zf (by omega), fun s s0 s1 => by have : s < 0 := s1; omega⟩, zg (by omega), fun s s0 s1 => by have : s < 0 := s1; omega⟩⟩
    have := in3_b d.toNat (by omega) s hs
    rw [show 160 + 29 * d.toNat = 159 + 29 * d.toNat + 1 by omega, show 164 + 29 * d.toNat + 3 * s = 159 + 29 * d.toNat + 5 + 3 * s by omega] at this
    exact this
  · exact ⟨fun _ => (0, fun _ => (0, 0, 0, 1)), fun d => ⟨by dsimp only; omega, fun i => by unfold FR; dsimp only; omega⟩, fun d d0 d1 => ⟨⟨zf (by omega), fun i i0 i1 => by have : i < 0 := i1; omega⟩, zg (by omega), fun i i0 i1 => by have : i < 0 := i1; omega⟩⟩
  · refine ⟨fun _ c => if 1 ≤ c ∧ c < 16 then c * 1118481 else 0, fun p c => by dsimp only; split <;> omega, fun p c p0 p1 c0 c1 => ?_⟩
    dsimp only
    rw [if_pos ⟨c0, c1⟩]
    have := in5 p.toNat (by omega) c.toNat (by omega) (by omega)
    rw [Int.natCast_mul, Int.toNat_of_nonneg (by omega)] at this
    refine ⟨this.1, ?_⟩
    unfold gA
    rw [show (16 * p + c).toNat = 16 * p.toNat + c.toNat by omega]
    exact this.2
  · exact ⟨fun _ => 0, fun _ _ => 0, fun l => by dsimp only; omega, fun l f => by dsimp only; omega, fun l l0 l1 => ⟨zL _ _ (by omega) (by decide), zg (by omega), fun f f0 f1 => by have : f < 0 := f1; omega⟩⟩
  · refine ⟨fun _ => 64, fun l => by dsimp only; omega, fun l l0 l1 => ?_⟩
    have := in6.2 l.toNat (by omega)
    exact ⟨this.1, this.2⟩
  · exact ⟨fun _ => J 0, fun _ => 0, fun _ => 0, fun l => by dsimp only; omega, fun l => by dsimp only; omega, fun l l0 l1 => ⟨⟨zL _ _ (by omega) (by decide), zL _ _ (by omega) (by decide), zL _ _ (by omega) (by decide)⟩, zg (by omega), zg (by omega), zg (by omega)⟩⟩
  · exact ⟨0, fun _ => 0, fun _ => 0, by omega, fun i => by dsimp only; omega, fun i => by dsimp only; omega, fun i j i0 i1 i2 => by omega, ⟨zf (by omega), z704 _ (by decide) (by decide)⟩, fun i i0 i1 => by omega⟩
  · exact ⟨0, fun _ => 0, by omega, fun i => by dsimp only; omega, ⟨zf (by omega), z704 _ (by decide) (by decide)⟩, fun i i0 i1 => by omega⟩
  · exact ⟨24, 16, by omega, ⟨in6.1.1, in6.1.2.1⟩, in6.1.2.2.1, in6.1.2.2.2⟩
  · exact ⟨0, fun _ => (0, 0, 0, 0, (0, fun _ => 0, fun _ => 0), (0, fun _ => 0, fun _ => 0)), by omega, fun i i0 i1 => by omega, ⟨z43 _ (by decide) (by decide), z704 _ (by decide) (by decide)⟩, fun i i0 i1 => by omega, fun i i0 i1 => zf (by omega), ⟨zf (by omega), zf (by omega), zf (by omega)⟩, fun d d0 d1 => ⟨zg (by omega), zg (by omega)⟩⟩
  · exact ⟨fun _ => 0, fun i => by dsimp only; omega, fun i i0 i1 => ⟨zg (by omega), zg (by omega)⟩⟩
  · exact ⟨0, fun _ => 0, fun _ => 0, by omega, fun i => by dsimp only; omega, fun i => by dsimp only; omega, ⟨zf (by omega), z704 _ (by decide) (by decide)⟩, fun i i0 i1 => by omega⟩
  · exact ⟨0, fun _ => 0, fun _ => 0, fun _ => 0, fun _ => 0, fun _ => 0, fun _ => 0, fun _ => 0, fun _ => 0, ⟨kr _ _ _, kr _ _ _, kr _ _ _⟩, ⟨ke, ke, ke⟩, ⟨⟨zf (by omega), fun i i0 i1 => by have : i < 0 := i1; omega⟩, ⟨zf (by omega), fun i i0 i1 => by have : i < 0 := i1; omega⟩, ⟨zf (by omega), fun i i0 i1 => by have : i < 0 := i1; omega⟩⟩, z704 _ (by decide) (by decide), fun j j0 j1 => by omega⟩
  · exact ⟨0, fun _ => 0, fun _ _ => 0, by omega, fun i => by dsimp only; omega, fun i i0 i1 => by omega, ⟨zf (by omega), z704 _ (by decide) (by decide)⟩, fun i hi => ⟨0, by decide, in3_c i hi⟩, fun i i0 i1 => by omega⟩
  · exact ⟨0, 0, fun _ _ => 0, by omega, by omega, fun i q => by dsimp only; omega, ⟨⟨zf (by omega), z704 _ (by decide) (by decide)⟩, zf (by omega), z704 _ (by decide) (by decide)⟩, fun i q i0 i1 => by omega⟩
  · exact ⟨fun _ => 0, fun _ => 0, fun _ _ => 0, fun t => by dsimp only; omega, fun t => by dsimp only; omega, fun t k => by dsimp only; omega, fun t t0 t1 => ⟨⟨zg (by omega), zg (by omega)⟩, ⟨zg (by omega), zg (by omega)⟩, fun k k0 k1 => by have : k < 0 := k1; omega⟩⟩
