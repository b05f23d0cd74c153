/-! All that is known at the law's entry -/
theorem arrK_of {s : State} {ty : FieldType} (h : (Jvm.Cond.arrayClass ty).before #[] s = true) : ∃ c, s.vm.findClass ("[" ++ ty.toString) = some c ∧ ArrOfT s c ty := by
  obtain ⟨c, k, comp, h1, h2, h3⟩ := Cond.arrayClass_spec h
  exact ⟨c, h1, fun n z => ⟨fun k h => (by cases h), k, h2, comp, h3⟩⟩
theorem arrO_of {s : State} {C : String} (h : va_AO C s) : ∃ c, s.vm.findClass ("[" ++ (FieldType.object C).toString) = some c ∧ va_RA s c (.object C) ∧ ArrOfT s c (.object C) := by
  obtain ⟨comp, c, k, h1, h2, h3, h4, h5⟩ := Cond.arrayOver_spec h
  exact ⟨c, h5, ⟨k, comp, h3, h4, h1, h5⟩, fun n z => ⟨fun k h => (by cases h), k, h3, comp, h4⟩⟩
theorem arrA_of {s : State} {t : FieldType} (h : (Jvm.Cond.arrayOver (.array t)).before #[] s = true) : ∃ c, s.vm.findClass ("[" ++ (FieldType.array t).toString) = some c ∧ ArrOfT s c (.array t) := by
  obtain ⟨comp, c, k, h1, h2, h3, h4, h5⟩ := arrayOverA_spec h
  exact ⟨c, h5, fun n z => ⟨fun k h => (by cases h), k, h3, comp, h4⟩⟩
theorem e_ro_0 (s : State) (b : Nat) : e_ro #[Value.ref b] s 0 = some b := by
  refine e_ro_of (t := b) ?_
  show (Term.arg 0).eval #[Value.ref b] s none [] s = some (.ref b)
  simp [Term.eval]
def e_aC (s : State) (k : Nat) : ClassId := (s.vm.findClass ("[" ++ (g_ty k).toString)).getD 0
theorem e_aC_of {s : State} {k c : Nat} (h : s.vm.findClass ("[" ++ (g_ty k).toString) = some c) : e_aC s k = c := by unfold e_aC; rw [h]; rfl
def e_G (s : State) (b : Nat) (dC : Nat → ClassId) (dI : Nat → Nat → Nat) (E : AEn) : SG := (s.heap, e_ro #[Value.ref b] s, dC, dI, e_aC s, E)
theorem e_ar {s : State} {b t N id : Nat} {dC : Nat → ClassId} {dI : Nat → Nat → Nat} {E : AEn} {ty : FieldType} {f : Nat → Value} (h1 : (e_tm id).eval #[Value.ref b] s none [] s = some (.ref t)) (h2 : va_T ty t N f (fun a => s.heap.size ≤ a) s s.heap) (hN : a_ln E id = N) (hf : ∀ j, j < N → f j = Value.int (rI E (fun _ _ => 0) id j)) : KArr (e_G s b dC dI E) s id ty := by
  obtain ⟨cell, z1, z2, z3, z4, z5, z6, z7⟩ := h2
  subst hN
  exact ⟨t, cell, e_ro_of h1, z1, z2, z3, ⟨z4, z5⟩, fun j hj => by rw [z6 j hj, hf j hj]; rfl⟩
set_option maxHeartbeats 4000000 in
theorem KO_obj {s : State} {b : Nat} (hgv : (Jvm.Cond.and given_1 narrow_1).before #[Value.ref b] s = true) (dC : Nat → ClassId) (dI : Nat → Nat → Nat) (E : AEn) : (∀ i, 4 ≤ i → i < 12 → KObj (e_G s b dC dI E) s i 12) ∧ (∀ i, 12 ≤ i → i < 27 → KObj (e_G s b dC dI E) s i 13) := by
  constructor
  · intro i h1 h2
    rcases (show i = 4 ∨ i = 5 ∨ i = 6 ∨ i = 7 ∨ i = 8 ∨ i = 9 ∨ i = 10 ∨ i = 11 by omega) with h | h | h | h | h | h | h | h <;> subst h
    · obtain ⟨t, q1, q2⟩ := e_k0 hgv
      obtain ⟨t1, r1, -⟩ := e_s0 hgv
      obtain ⟨t2, r2, -⟩ := e_s8 hgv
      obtain ⟨f0, f1, f2, f3⟩ := e_kf0 hgv q1 r1 r2
      refine ⟨t, e_ro_of (id := 4) q1, q2, fun k hk => ?_⟩
      have hk : k < 4 := hk
      rcases (show k = 0 ∨ k = 1 ∨ k = 2 ∨ k = 3 by omega) with h | h | h | h <;> subst h
      · show va_OF _ _ _ (g_v (e_G s b dC dI E) 12) _ _ _ _
        rw [g_v_lo (G := e_G s b dC dI E) (by decide) (e_ro_of (id := 12) r1)]
        exact f0
      · show va_OF _ _ _ (g_v (e_G s b dC dI E) 20) _ _ _ _
        rw [g_v_lo (G := e_G s b dC dI E) (by decide) (e_ro_of (id := 20) r2)]
        exact f1
      · exact f2
      · exact f3
    · obtain ⟨t, q1, q2⟩ := e_k1 hgv
      obtain ⟨t1, r1, -⟩ := e_s1 hgv
      obtain ⟨t2, r2, -⟩ := e_s9 hgv
      obtain ⟨f0, f1, f2, f3⟩ := e_kf1 hgv q1 r1 r2
      refine ⟨t, e_ro_of (id := 5) q1, q2, fun k hk => ?_⟩
      have hk : k < 4 := hk
      rcases (show k = 0 ∨ k = 1 ∨ k = 2 ∨ k = 3 by omega) with h | h | h | h <;> subst h
      · show va_OF _ _ _ (g_v (e_G s b dC dI E) 13) _ _ _ _
        rw [g_v_lo (G := e_G s b dC dI E) (by decide) (e_ro_of (id := 13) r1)]
        exact f0
      · show va_OF _ _ _ (g_v (e_G s b dC dI E) 21) _ _ _ _
        rw [g_v_lo (G := e_G s b dC dI E) (by decide) (e_ro_of (id := 21) r2)]
        exact f1
      · exact f2
      · exact f3
    · obtain ⟨t, q1, q2⟩ := e_k2 hgv
      obtain ⟨t1, r1, -⟩ := e_s2 hgv
      obtain ⟨t2, r2, -⟩ := e_s10 hgv
      obtain ⟨f0, f1, f2, f3⟩ := e_kf2 hgv q1 r1 r2
      refine ⟨t, e_ro_of (id := 6) q1, q2, fun k hk => ?_⟩
      have hk : k < 4 := hk
      rcases (show k = 0 ∨ k = 1 ∨ k = 2 ∨ k = 3 by omega) with h | h | h | h <;> subst h
      · show va_OF _ _ _ (g_v (e_G s b dC dI E) 14) _ _ _ _
        rw [g_v_lo (G := e_G s b dC dI E) (by decide) (e_ro_of (id := 14) r1)]
        exact f0
      · show va_OF _ _ _ (g_v (e_G s b dC dI E) 22) _ _ _ _
        rw [g_v_lo (G := e_G s b dC dI E) (by decide) (e_ro_of (id := 22) r2)]
        exact f1
      · exact f2
      · exact f3
    · obtain ⟨t, q1, q2⟩ := e_k3 hgv
      obtain ⟨t1, r1, -⟩ := e_s3 hgv
      obtain ⟨t2, r2, -⟩ := e_s11 hgv
      obtain ⟨f0, f1, f2, f3⟩ := e_kf3 hgv q1 r1 r2
      refine ⟨t, e_ro_of (id := 7) q1, q2, fun k hk => ?_⟩
      have hk : k < 4 := hk
      rcases (show k = 0 ∨ k = 1 ∨ k = 2 ∨ k = 3 by omega) with h | h | h | h <;> subst h
      · show va_OF _ _ _ (g_v (e_G s b dC dI E) 15) _ _ _ _
        rw [g_v_lo (G := e_G s b dC dI E) (by decide) (e_ro_of (id := 15) r1)]
        exact f0
      · show va_OF _ _ _ (g_v (e_G s b dC dI E) 23) _ _ _ _
        rw [g_v_lo (G := e_G s b dC dI E) (by decide) (e_ro_of (id := 23) r2)]
        exact f1
      · exact f2
      · exact f3
    · obtain ⟨t, q1, q2⟩ := e_k4 hgv
      obtain ⟨t1, r1, -⟩ := e_s4 hgv
      obtain ⟨t2, r2, -⟩ := e_s10 hgv
      obtain ⟨f0, f1, f2, f3⟩ := e_kf4 hgv q1 r1 r2
      refine ⟨t, e_ro_of (id := 8) q1, q2, fun k hk => ?_⟩
      have hk : k < 4 := hk
      rcases (show k = 0 ∨ k = 1 ∨ k = 2 ∨ k = 3 by omega) with h | h | h | h <;> subst h
      · show va_OF _ _ _ (g_v (e_G s b dC dI E) 16) _ _ _ _
        rw [g_v_lo (G := e_G s b dC dI E) (by decide) (e_ro_of (id := 16) r1)]
        exact f0
      · show va_OF _ _ _ (g_v (e_G s b dC dI E) 22) _ _ _ _
        rw [g_v_lo (G := e_G s b dC dI E) (by decide) (e_ro_of (id := 22) r2)]
        exact f1
      · exact f2
      · exact f3
    · obtain ⟨t, q1, q2⟩ := e_k5 hgv
      obtain ⟨t1, r1, -⟩ := e_s5 hgv
      obtain ⟨t2, r2, -⟩ := e_s12 hgv
      obtain ⟨f0, f1, f2, f3⟩ := e_kf5 hgv q1 r1 r2
      refine ⟨t, e_ro_of (id := 9) q1, q2, fun k hk => ?_⟩
      have hk : k < 4 := hk
      rcases (show k = 0 ∨ k = 1 ∨ k = 2 ∨ k = 3 by omega) with h | h | h | h <;> subst h
      · show va_OF _ _ _ (g_v (e_G s b dC dI E) 17) _ _ _ _
        rw [g_v_lo (G := e_G s b dC dI E) (by decide) (e_ro_of (id := 17) r1)]
        exact f0
      · show va_OF _ _ _ (g_v (e_G s b dC dI E) 24) _ _ _ _
        rw [g_v_lo (G := e_G s b dC dI E) (by decide) (e_ro_of (id := 24) r2)]
        exact f1
      · exact f2
      · exact f3
    · obtain ⟨t, q1, q2⟩ := e_k6 hgv
      obtain ⟨t1, r1, -⟩ := e_s6 hgv
      obtain ⟨t2, r2, -⟩ := e_s13 hgv
      obtain ⟨f0, f1, f2, f3⟩ := e_kf6 hgv q1 r1 r2
      refine ⟨t, e_ro_of (id := 10) q1, q2, fun k hk => ?_⟩
      have hk : k < 4 := hk
      rcases (show k = 0 ∨ k = 1 ∨ k = 2 ∨ k = 3 by omega) with h | h | h | h <;> subst h
      · show va_OF _ _ _ (g_v (e_G s b dC dI E) 18) _ _ _ _
        rw [g_v_lo (G := e_G s b dC dI E) (by decide) (e_ro_of (id := 18) r1)]
        exact f0
      · show va_OF _ _ _ (g_v (e_G s b dC dI E) 25) _ _ _ _
        rw [g_v_lo (G := e_G s b dC dI E) (by decide) (e_ro_of (id := 25) r2)]
        exact f1
      · exact f2
      · exact f3
    · obtain ⟨t, q1, q2⟩ := e_k7 hgv
      obtain ⟨t1, r1, -⟩ := e_s7 hgv
      obtain ⟨t2, r2, -⟩ := e_s14 hgv
      obtain ⟨f0, f1, f2, f3⟩ := e_kf7 hgv q1 r1 r2
      refine ⟨t, e_ro_of (id := 11) q1, q2, fun k hk => ?_⟩
      have hk : k < 4 := hk
      rcases (show k = 0 ∨ k = 1 ∨ k = 2 ∨ k = 3 by omega) with h | h | h | h <;> subst h
      · show va_OF _ _ _ (g_v (e_G s b dC dI E) 19) _ _ _ _
        rw [g_v_lo (G := e_G s b dC dI E) (by decide) (e_ro_of (id := 19) r1)]
        exact f0
      · show va_OF _ _ _ (g_v (e_G s b dC dI E) 26) _ _ _ _
        rw [g_v_lo (G := e_G s b dC dI E) (by decide) (e_ro_of (id := 26) r2)]
        exact f1
      · exact f2
      · exact f3
  · intro i h1 h2
    rcases (show i = 12 ∨ i = 13 ∨ i = 14 ∨ i = 15 ∨ i = 16 ∨ i = 17 ∨ i = 18 ∨ i = 19 ∨ i = 20 ∨ i = 21 ∨ i = 22 ∨ i = 23 ∨ i = 24 ∨ i = 25 ∨ i = 26 by omega) with h | h | h | h | h | h | h | h | h | h | h | h | h | h | h <;> subst h
    · obtain ⟨t, q1, q2⟩ := e_s0 hgv
      obtain ⟨t1, r1, -⟩ := e_b0 hgv
      obtain ⟨f0, f1⟩ := e_sf0 hgv q1 r1
      refine ⟨t, e_ro_of (id := 12) q1, q2, fun k hk => ?_⟩
      have hk : k < 2 := hk
      rcases (show k = 0 ∨ k = 1 by omega) with h | h <;> subst h
      · show va_OF _ _ _ (g_v (e_G s b dC dI E) 28) _ _ _ _
        rw [g_v_lo (G := e_G s b dC dI E) (by decide) (e_ro_of (id := 28) r1)]
        exact f0
      · exact f1
    · obtain ⟨t, q1, q2⟩ := e_s1 hgv
      obtain ⟨t1, r1, -⟩ := e_b1 hgv
      obtain ⟨f0, f1⟩ := e_sf1 hgv q1 r1
      refine ⟨t, e_ro_of (id := 13) q1, q2, fun k hk => ?_⟩
      have hk : k < 2 := hk
      rcases (show k = 0 ∨ k = 1 by omega) with h | h <;> subst h
      · show va_OF _ _ _ (g_v (e_G s b dC dI E) 29) _ _ _ _
        rw [g_v_lo (G := e_G s b dC dI E) (by decide) (e_ro_of (id := 29) r1)]
        exact f0
      · exact f1
    · obtain ⟨t, q1, q2⟩ := e_s2 hgv
      obtain ⟨t1, r1, -⟩ := e_b2 hgv
      obtain ⟨f0, f1⟩ := e_sf2 hgv q1 r1
      refine ⟨t, e_ro_of (id := 14) q1, q2, fun k hk => ?_⟩
      have hk : k < 2 := hk
      rcases (show k = 0 ∨ k = 1 by omega) with h | h <;> subst h
      · show va_OF _ _ _ (g_v (e_G s b dC dI E) 30) _ _ _ _
        rw [g_v_lo (G := e_G s b dC dI E) (by decide) (e_ro_of (id := 30) r1)]
        exact f0
      · exact f1
    · obtain ⟨t, q1, q2⟩ := e_s3 hgv
      obtain ⟨t1, r1, -⟩ := e_b3 hgv
      obtain ⟨f0, f1⟩ := e_sf3 hgv q1 r1
      refine ⟨t, e_ro_of (id := 15) q1, q2, fun k hk => ?_⟩
      have hk : k < 2 := hk
      rcases (show k = 0 ∨ k = 1 by omega) with h | h <;> subst h
      · show va_OF _ _ _ (g_v (e_G s b dC dI E) 31) _ _ _ _
        rw [g_v_lo (G := e_G s b dC dI E) (by decide) (e_ro_of (id := 31) r1)]
        exact f0
      · exact f1
    · obtain ⟨t, q1, q2⟩ := e_s4 hgv
      obtain ⟨t1, r1, -⟩ := e_b4 hgv
      obtain ⟨f0, f1⟩ := e_sf4 hgv q1 r1
      refine ⟨t, e_ro_of (id := 16) q1, q2, fun k hk => ?_⟩
      have hk : k < 2 := hk
      rcases (show k = 0 ∨ k = 1 by omega) with h | h <;> subst h
      · show va_OF _ _ _ (g_v (e_G s b dC dI E) 32) _ _ _ _
        rw [g_v_lo (G := e_G s b dC dI E) (by decide) (e_ro_of (id := 32) r1)]
        exact f0
      · exact f1
    · obtain ⟨t, q1, q2⟩ := e_s5 hgv
      obtain ⟨t1, r1, -⟩ := e_b5 hgv
      obtain ⟨f0, f1⟩ := e_sf5 hgv q1 r1
      refine ⟨t, e_ro_of (id := 17) q1, q2, fun k hk => ?_⟩
      have hk : k < 2 := hk
      rcases (show k = 0 ∨ k = 1 by omega) with h | h <;> subst h
      · show va_OF _ _ _ (g_v (e_G s b dC dI E) 33) _ _ _ _
        rw [g_v_lo (G := e_G s b dC dI E) (by decide) (e_ro_of (id := 33) r1)]
        exact f0
      · exact f1
    · obtain ⟨t, q1, q2⟩ := e_s6 hgv
      obtain ⟨t1, r1, -⟩ := e_b6 hgv
      obtain ⟨f0, f1⟩ := e_sf6 hgv q1 r1
      refine ⟨t, e_ro_of (id := 18) q1, q2, fun k hk => ?_⟩
      have hk : k < 2 := hk
      rcases (show k = 0 ∨ k = 1 by omega) with h | h <;> subst h
      · show va_OF _ _ _ (g_v (e_G s b dC dI E) 34) _ _ _ _
        rw [g_v_lo (G := e_G s b dC dI E) (by decide) (e_ro_of (id := 34) r1)]
        exact f0
      · exact f1
    · obtain ⟨t, q1, q2⟩ := e_s7 hgv
      obtain ⟨t1, r1, -⟩ := e_b7 hgv
      obtain ⟨f0, f1⟩ := e_sf7 hgv q1 r1
      refine ⟨t, e_ro_of (id := 19) q1, q2, fun k hk => ?_⟩
      have hk : k < 2 := hk
      rcases (show k = 0 ∨ k = 1 by omega) with h | h <;> subst h
      · show va_OF _ _ _ (g_v (e_G s b dC dI E) 35) _ _ _ _
        rw [g_v_lo (G := e_G s b dC dI E) (by decide) (e_ro_of (id := 35) r1)]
        exact f0
      · exact f1
    · obtain ⟨t, q1, q2⟩ := e_s8 hgv
      obtain ⟨t1, r1, -⟩ := e_b8 hgv
      obtain ⟨f0, f1⟩ := e_sf8 hgv q1 r1
      refine ⟨t, e_ro_of (id := 20) q1, q2, fun k hk => ?_⟩
      have hk : k < 2 := hk
      rcases (show k = 0 ∨ k = 1 by omega) with h | h <;> subst h
      · show va_OF _ _ _ (g_v (e_G s b dC dI E) 36) _ _ _ _
        rw [g_v_lo (G := e_G s b dC dI E) (by decide) (e_ro_of (id := 36) r1)]
        exact f0
      · exact f1
    · obtain ⟨t, q1, q2⟩ := e_s9 hgv
      obtain ⟨t1, r1, -⟩ := e_b9 hgv
      obtain ⟨f0, f1⟩ := e_sf9 hgv q1 r1
      refine ⟨t, e_ro_of (id := 21) q1, q2, fun k hk => ?_⟩
      have hk : k < 2 := hk
      rcases (show k = 0 ∨ k = 1 by omega) with h | h <;> subst h
      · show va_OF _ _ _ (g_v (e_G s b dC dI E) 37) _ _ _ _
        rw [g_v_lo (G := e_G s b dC dI E) (by decide) (e_ro_of (id := 37) r1)]
        exact f0
      · exact f1
    · obtain ⟨t, q1, q2⟩ := e_s10 hgv
      obtain ⟨t1, r1, -⟩ := e_b10 hgv
      obtain ⟨f0, f1⟩ := e_sf10 hgv q1 r1
      refine ⟨t, e_ro_of (id := 22) q1, q2, fun k hk => ?_⟩
      have hk : k < 2 := hk
      rcases (show k = 0 ∨ k = 1 by omega) with h | h <;> subst h
      · show va_OF _ _ _ (g_v (e_G s b dC dI E) 38) _ _ _ _
        rw [g_v_lo (G := e_G s b dC dI E) (by decide) (e_ro_of (id := 38) r1)]
        exact f0
      · exact f1
    · obtain ⟨t, q1, q2⟩ := e_s11 hgv
      obtain ⟨t1, r1, -⟩ := e_b11 hgv
      obtain ⟨f0, f1⟩ := e_sf11 hgv q1 r1
      refine ⟨t, e_ro_of (id := 23) q1, q2, fun k hk => ?_⟩
      have hk : k < 2 := hk
      rcases (show k = 0 ∨ k = 1 by omega) with h | h <;> subst h
      · show va_OF _ _ _ (g_v (e_G s b dC dI E) 39) _ _ _ _
        rw [g_v_lo (G := e_G s b dC dI E) (by decide) (e_ro_of (id := 39) r1)]
        exact f0
      · exact f1
    · obtain ⟨t, q1, q2⟩ := e_s12 hgv
      obtain ⟨t1, r1, -⟩ := e_b12 hgv
      obtain ⟨f0, f1⟩ := e_sf12 hgv q1 r1
      refine ⟨t, e_ro_of (id := 24) q1, q2, fun k hk => ?_⟩
      have hk : k < 2 := hk
      rcases (show k = 0 ∨ k = 1 by omega) with h | h <;> subst h
      · show va_OF _ _ _ (g_v (e_G s b dC dI E) 40) _ _ _ _
        rw [g_v_lo (G := e_G s b dC dI E) (by decide) (e_ro_of (id := 40) r1)]
        exact f0
      · exact f1
    · obtain ⟨t, q1, q2⟩ := e_s13 hgv
      obtain ⟨t1, r1, -⟩ := e_b13 hgv
      obtain ⟨f0, f1⟩ := e_sf13 hgv q1 r1
      refine ⟨t, e_ro_of (id := 25) q1, q2, fun k hk => ?_⟩
      have hk : k < 2 := hk
      rcases (show k = 0 ∨ k = 1 by omega) with h | h <;> subst h
      · show va_OF _ _ _ (g_v (e_G s b dC dI E) 41) _ _ _ _
        rw [g_v_lo (G := e_G s b dC dI E) (by decide) (e_ro_of (id := 41) r1)]
        exact f0
      · exact f1
    · obtain ⟨t, q1, q2⟩ := e_s14 hgv
      obtain ⟨t1, r1, -⟩ := e_b14 hgv
      obtain ⟨f0, f1⟩ := e_sf14 hgv q1 r1
      refine ⟨t, e_ro_of (id := 26) q1, q2, fun k hk => ?_⟩
      have hk : k < 2 := hk
      rcases (show k = 0 ∨ k = 1 by omega) with h | h <;> subst h
      · show va_OF _ _ _ (g_v (e_G s b dC dI E) 42) _ _ _ _
        rw [g_v_lo (G := e_G s b dC dI E) (by decide) (e_ro_of (id := 42) r1)]
        exact f0
      · exact f1
set_option maxHeartbeats 4000000 in
theorem KO_arr {s : State} {b L : Nat} {xs : Nat → Int32} (hgv : (Jvm.Cond.and given_1 narrow_1).before #[Value.ref b] s = true) (hX : va_X b L xs s s.heap) (dC : Nat → ClassId) (dI : Nat → Nat → Nat) : KArr (e_G s b dC dI (L, xs)) s 0 .int ∧ KArr (e_G s b dC dI (L, xs)) s 1 .int ∧ KArr (e_G s b dC dI (L, xs)) s 2 .int ∧ (∀ i, 28 ≤ i → i < 43 → KArr (e_G s b dC dI (L, xs)) s i .byte) ∧ KRow (e_G s b dC dI (L, xs)) s := by
  refine ⟨?_, ?_, ?_, ?_, ?_⟩
  · obtain ⟨scr, x1, x2, x3, x4, x5⟩ := hX
    refine ⟨b, scr, e_ro_0 s b, x1, x2, x3, ⟨by rw [x4]; exact Nat.le_refl _, by rw [x4]; rfl⟩, fun j hj => ?_⟩
    exact x5 j hj
  · obtain ⟨t, q1, q2⟩ := e_qs hgv
    exact e_ar (id := 1) q1 q2 rfl (fun j hj => rfl)
  · obtain ⟨t, q1, q2⟩ := e_sm hgv
    exact e_ar (id := 2) q1 q2 rfl (fun j hj => rfl)
  · intro i h1 h2
    rcases (show i = 28 ∨ i = 29 ∨ i = 30 ∨ i = 31 ∨ i = 32 ∨ i = 33 ∨ i = 34 ∨ i = 35 ∨ i = 36 ∨ i = 37 ∨ i = 38 ∨ i = 39 ∨ i = 40 ∨ i = 41 ∨ i = 42 by omega) with h | h | h | h | h | h | h | h | h | h | h | h | h | h | h <;> subst h
    · obtain ⟨t, q1, q2⟩ := e_b0 hgv
      exact e_ar (id := 28) q1 q2 rfl (fun j hj => rfl)
    · obtain ⟨t, q1, q2⟩ := e_b1 hgv
      exact e_ar (id := 29) q1 q2 rfl (fun j hj => rfl)
    · obtain ⟨t, q1, q2⟩ := e_b2 hgv
      exact e_ar (id := 30) q1 q2 rfl (fun j hj => rfl)
    · obtain ⟨t, q1, q2⟩ := e_b3 hgv
      exact e_ar (id := 31) q1 q2 rfl (fun j hj => rfl)
    · obtain ⟨t, q1, q2⟩ := e_b4 hgv
      exact e_ar (id := 32) q1 q2 rfl (fun j hj => rfl)
    · obtain ⟨t, q1, q2⟩ := e_b5 hgv
      exact e_ar (id := 33) q1 q2 rfl (fun j hj => rfl)
    · obtain ⟨t, q1, q2⟩ := e_b6 hgv
      exact e_ar (id := 34) q1 q2 rfl (fun j hj => rfl)
    · obtain ⟨t, q1, q2⟩ := e_b7 hgv
      exact e_ar (id := 35) q1 q2 rfl (fun j hj => rfl)
    · obtain ⟨t, q1, q2⟩ := e_b8 hgv
      exact e_ar (id := 36) q1 q2 rfl (fun j hj => rfl)
    · obtain ⟨t, q1, q2⟩ := e_b9 hgv
      exact e_ar (id := 37) q1 q2 rfl (fun j hj => rfl)
    · obtain ⟨t, q1, q2⟩ := e_b10 hgv
      exact e_ar (id := 38) q1 q2 rfl (fun j hj => rfl)
    · obtain ⟨t, q1, q2⟩ := e_b11 hgv
      exact e_ar (id := 39) q1 q2 rfl (fun j hj => rfl)
    · obtain ⟨t, q1, q2⟩ := e_b12 hgv
      exact e_ar (id := 40) q1 q2 rfl (fun j hj => rfl)
    · obtain ⟨t, q1, q2⟩ := e_b13 hgv
      exact e_ar (id := 41) q1 q2 rfl (fun j hj => rfl)
    · obtain ⟨t, q1, q2⟩ := e_b14 hgv
      exact e_ar (id := 42) q1 q2 rfl (fun j hj => rfl)
  · obtain ⟨t0, k0, -⟩ := e_k0 hgv
    obtain ⟨t1, k1, -⟩ := e_k1 hgv
    obtain ⟨t2, k2, -⟩ := e_k2 hgv
    obtain ⟨t3, k3, -⟩ := e_k3 hgv
    obtain ⟨t4, k4, -⟩ := e_k4 hgv
    obtain ⟨t5, k5, -⟩ := e_k5 hgv
    obtain ⟨t6, k6, -⟩ := e_k6 hgv
    obtain ⟨t7, k7, -⟩ := e_k7 hgv
    have hf : ∀ j, j < 8 → (e_tm (4 + j)).eval #[Value.ref b] s none [] s = some (.ref ([t0, t1, t2, t3, t4, t5, t6, t7].getD j 0)) := by
      intro j hj
      rcases (show j = 0 ∨ j = 1 ∨ j = 2 ∨ j = 3 ∨ j = 4 ∨ j = 5 ∨ j = 6 ∨ j = 7 by omega) with h | h | h | h | h | h | h | h <;> subst h <;> assumption
    obtain ⟨t, q1, cell, z1, z2, z3, z4, z5, z6, z7⟩ := e_kr hgv hf
    refine ⟨t, cell, e_ro_of (id := 3) q1, z1, z2, z3, ⟨z4, z5⟩, fun j hj => ?_⟩
    rw [z6 j hj, g_v_lo (G := e_G s b dC dI (L, xs)) (by omega) (e_ro_of (hf j hj))]
theorem KO_ne {s : State} {b : Nat} (hgv : (Jvm.Cond.and given_1 narrow_1).before #[Value.ref b] s = true) : ∀ i j, 4 ≤ i → i < 12 → 4 ≤ j → j < 12 → e_ro #[Value.ref b] s i = e_ro #[Value.ref b] s j → i = j := by
  obtain ⟨t0, k0, -⟩ := e_k0 hgv
  obtain ⟨t1, k1, -⟩ := e_k1 hgv
  obtain ⟨t2, k2, -⟩ := e_k2 hgv
  obtain ⟨t3, k3, -⟩ := e_k3 hgv
  obtain ⟨t4, k4, -⟩ := e_k4 hgv
  obtain ⟨t5, k5, -⟩ := e_k5 hgv
  obtain ⟨t6, k6, -⟩ := e_k6 hgv
  obtain ⟨t7, k7, -⟩ := e_k7 hgv
  have hf : ∀ j, j < 8 → (e_tm (4 + j)).eval #[Value.ref b] s none [] s = some (.ref ([t0, t1, t2, t3, t4, t5, t6, t7].getD j 0)) := by
    intro j hj
    rcases (show j = 0 ∨ j = 1 ∨ j = 2 ∨ j = 3 ∨ j = 4 ∨ j = 5 ∨ j = 6 ∨ j = 7 by omega) with h | h | h | h | h | h | h | h <;> subst h <;> assumption
  have hne := e_ne hgv hf
  intro i j h1 h2 h3 h4 h
  have hi := e_ro_of (hf (i - 4) (by omega))
  have hj := e_ro_of (hf (j - 4) (by omega))
  rw [show 4 + (i - 4) = i by omega] at hi
  rw [show 4 + (j - 4) = j by omega] at hj
  rw [hi, hj] at h
  have h := Option.some.inj h
  by_cases e : i = j
  · exact e
  · exfalso
    by_cases hlt : i < j
    · exact hne (i - 4) (j - 4) (by omega) (by omega) h
    · exact hne (j - 4) (i - 4) (by omega) (by omega) h.symm
set_option maxHeartbeats 4000000 in
theorem KO_st {s : State} {b : Nat} (hts : ∀ w ∈ lw_tbl, w.before #[Value.ref b] s = true) (hgv : (Jvm.Cond.and given_1 narrow_1).before #[Value.ref b] s = true) (dC : Nat → ClassId) (dI : Nat → Nat → Nat) (E : AEn) : KSt (e_G s b dC dI E) s := by
  have hw : ∀ (i : Nat) (w : Jvm.Cond), lw_tbl[i]? = some w → w.before #[Value.ref b] s = true := fun i w h => hts w (List.mem_of_getElem? h)
  have hA : ∀ a : Nat, a < s.heap.size → ¬ (fun a => s.heap.size ≤ a) a := fun a h => Nat.not_le.mpr h
  intro j hj
  rcases (show j = 0 ∨ j = 1 ∨ j = 2 ∨ j = 3 ∨ j = 4 ∨ j = 5 ∨ j = 6 by omega) with h | h | h | h | h | h | h <;> subst h
  · obtain ⟨t, q1, -⟩ := e_k0 hgv
    refine ⟨_, rfl, ?_⟩
    show va_Z _ _ _ (g_v (e_G s b dC dI E) 4) _ _ _
    rw [g_v_lo (G := e_G s b dC dI E) (by decide) (e_ro_of (id := 4) q1)]
    exact va_Zof (hw 393 (.laysStatic "CartoonHouse$Kind" "PAPER" "LCartoonHouse$Kind;") (by decide +kernel)) (hw 114 (.initialized "CartoonHouse$Kind") (by decide +kernel)) q1 hA
  · obtain ⟨t0, k0, -⟩ := e_k0 hgv
    obtain ⟨t1, k1, -⟩ := e_k1 hgv
    obtain ⟨t2, k2, -⟩ := e_k2 hgv
    obtain ⟨t3, k3, -⟩ := e_k3 hgv
    obtain ⟨t4, k4, -⟩ := e_k4 hgv
    obtain ⟨t5, k5, -⟩ := e_k5 hgv
    obtain ⟨t6, k6, -⟩ := e_k6 hgv
    obtain ⟨t7, k7, -⟩ := e_k7 hgv
    have hf : ∀ j, j < 8 → (e_tm (4 + j)).eval #[Value.ref b] s none [] s = some (.ref ([t0, t1, t2, t3, t4, t5, t6, t7].getD j 0)) := by
      intro j hj
      rcases (show j = 0 ∨ j = 1 ∨ j = 2 ∨ j = 3 ∨ j = 4 ∨ j = 5 ∨ j = 6 ∨ j = 7 by omega) with h | h | h | h | h | h | h | h <;> subst h <;> assumption
    obtain ⟨t, q1, -⟩ := e_kr hgv hf
    refine ⟨_, rfl, ?_⟩
    show va_Z _ _ _ (g_v (e_G s b dC dI E) 3) _ _ _
    rw [g_v_lo (G := e_G s b dC dI E) (by decide) (e_ro_of (id := 3) q1)]
    exact va_Zof (hw 1249 (.laysStatic "CartoonHouse" "KINDS" "[LCartoonHouse$Kind;") (by decide +kernel)) (hw 103 (.initialized "CartoonHouse") (by decide +kernel)) q1 hA
  · obtain ⟨t, q1, -⟩ := e_sm hgv
    refine ⟨_, rfl, ?_⟩
    show va_Z _ _ _ (g_v (e_G s b dC dI E) 2) _ _ _
    rw [g_v_lo (G := e_G s b dC dI E) (by decide) (e_ro_of (id := 2) q1)]
    exact va_Zof (hw 1393 (.laysStatic "CartoonHouse$1" "$SwitchMap$CartoonHouse$Kind" "[I") (by decide +kernel)) (hw 125 (.initialized "CartoonHouse$1") (by decide +kernel)) q1 hA
  · obtain ⟨t, q1, -⟩ := e_qs hgv
    refine ⟨_, rfl, ?_⟩
    show va_Z _ _ _ (g_v (e_G s b dC dI E) 1) _ _ _
    rw [g_v_lo (G := e_G s b dC dI E) (by decide) (e_ro_of (id := 1) q1)]
    exact va_Zof (hw 1028 (.laysStatic "CartoonHouse" "QUARTER_SINE" "[I") (by decide +kernel)) (hw 103 (.initialized "CartoonHouse") (by decide +kernel)) q1 hA
  · obtain ⟨t, q1, -⟩ := e_k1 hgv
    refine ⟨_, rfl, ?_⟩
    show va_Z _ _ _ (g_v (e_G s b dC dI E) 5) _ _ _
    rw [g_v_lo (G := e_G s b dC dI E) (by decide) (e_ro_of (id := 5) q1)]
    exact va_Zof (hw 1343 (.laysStatic "CartoonHouse$Kind" "LAYER" "LCartoonHouse$Kind;") (by decide +kernel)) (hw 114 (.initialized "CartoonHouse$Kind") (by decide +kernel)) q1 hA
  · refine ⟨_, rfl, ?_⟩
    exact va_Zof (hw 1263 (.laysStatic "java/lang/String" "COMPACT_STRINGS" "Z") (by decide +kernel)) (hw 121 (.initialized "java/lang/String") (by decide +kernel)) (va_eqi (flat_of_before _ hgv (Cond.eq (.static "java/lang/String" "COMPACT_STRINGS" "Z") (.int 1)) (List.mem_of_getElem? (i := 34) (by decide +kernel)))) hA
  · refine ⟨_, rfl, ?_⟩
    have hR := flat_of_before _ hgv (Cond.isRef (.static "jdk/internal/util/Preconditions" "SIOOBE_FORMATTER" "Ljava/util/function/BiFunction;")) (List.mem_of_getElem? (i := 35) (by decide +kernel))
    show va_Z _ _ _ (g_v (e_G s b dC dI E) 27) _ _ _
    have key : (Term.static "jdk/internal/util/Preconditions" "SIOOBE_FORMATTER" "Ljava/util/function/BiFunction;").eval #[Value.ref b] s none [] s = some (g_v (e_G s b dC dI E) 27) := by
      have e27 : g_v (e_G s b dC dI E) 27 = va_rf (e_ro #[Value.ref b] s 27) := rfl
      cases hv : (Term.static "jdk/internal/util/Preconditions" "SIOOBE_FORMATTER" "Ljava/util/function/BiFunction;").eval #[Value.ref b] s none [] s with
      | none => simp [Cond.before, Cond.holds, Cond.value, hv] at hR
      | some w =>
        simp only [Cond.before, Cond.holds, Cond.value, hv] at hR
        have hv' : (e_tm 27).eval #[Value.ref b] s none [] s = some w := hv
        cases w with
        | null =>
          rw [e27]
          unfold e_ro
          rw [hv']
          rfl
        | ref t => rw [e27, e_ro_of hv']; rfl
        | _ => simp at hR
    exact va_Zof (hw 1280 (.laysStatic "jdk/internal/util/Preconditions" "SIOOBE_FORMATTER" "Ljava/util/function/BiFunction;") (by decide +kernel)) (hw 123 (.initialized "jdk/internal/util/Preconditions") (by decide +kernel)) key hA
set_option maxHeartbeats 4000000 in
theorem KO_entry {p : Program} {s : State} {m : MethodId} {meth : Method} {c : Code} {b L : Nat} {xs : Nat → Int32} (WA : WAll) (C0 : lw_At p s m meth c b L xs) : ∃ G : SG, G.1 = s.heap ∧ g_E G = (L, xs) ∧ G.2.1 0 = some b ∧ KO G s := by
  obtain ⟨hx, hb, hr, hml, hown, hts, hX, hbl, hlocks, hgv⟩ := C0
  have hw : ∀ (i : Nat) (w : Jvm.Cond), lw_tbl[i]? = some w → w.before #[Value.ref b] s = true := fun i w h => hts w (List.mem_of_getElem? h)
  have hcl : ∀ c : Nat, ∃ q : ClassId × (Nat → Nat), c < 12 → u_Kn s (c_n c) (c_T c) (c_N c) q.1 q.2 := by
    intro c
    by_cases hc : c < 12
    · have hWC := WA.2.2.2.2.2.2.2.2.1 c hc
      obtain ⟨cC, iS, h⟩ := u_known (C := c_n c) (T := c_T c) (N := c_N c) (n := c_N c) (ws := u_ws (c_n c) (c_T c) (c_N c)) (args := #[Value.ref b]) (s := s) (fun w hw9 => by
        obtain ⟨k, hk, rfl⟩ := List.mem_map.mp hw9
        exact hw _ _ (hWC.2.2.1 k (List.mem_range.mp hk)).1) (fun _ h => h) (hw _ _ hWC.1)
      exact ⟨(cC, iS), fun _ => h⟩
    · exact ⟨(0, fun _ => 0), fun h => absurd h hc⟩
  obtain ⟨fC, hfC⟩ := Classical.axiomOfChoice hcl
  refine ⟨e_G s b (fun c => (fC c).1) (fun c => (fC c).2) (L, xs), rfl, rfl, e_ro_0 s b, ?_, ?_, ?_, ?_, ?_, KO_arr hgv hX _ _, KO_obj hgv _ _ _, KO_ne hgv, KO_st hts hgv _ _ _⟩
  · intro w hw1 hk
    simp only [Bool.and_eq_true] at hk
    exact va_tabs hk.1 rfl (hts w hw1)
  · exact fun c hc => hfC c hc
  · intro k hk
    have key : ∀ k, (Jvm.Cond.arrayClass (g_ty k)).before #[] s = true → (Jvm.Cond.arrayClass (g_ty k)).before #[] s = true ∧ s.vm.findClass ("[" ++ (g_ty k).toString) = some (e_aC s k) ∧ ArrOfT s (e_aC s k) (g_ty k) := by
      intro k h
      obtain ⟨c, h1, h2⟩ := arrK_of h
      rw [e_aC_of h1]
      exact ⟨h, h1, h2⟩
    rcases hk with h | h | h <;> subst h
    · exact key 20 (hw 194 (.arrayClass .int) (by decide +kernel))
    · exact key 21 (hw 160 (.arrayClass .byte) (by decide +kernel))
    · exact key 22 (hw 442 (.arrayClass .boolean) (by decide +kernel))
  · intro k hk
    have key : ∀ k C, g_ty k = .object C → c_n (k - 30) = C → (Jvm.Cond.arrayOver (.object C)).before #[] s = true → va_AO (c_n (k - 30)) s ∧ va_RA s (e_aC s k) (g_ty k) ∧ ArrOfT s (e_aC s k) (g_ty k) := by
      intro k C h1 h2 h
      obtain ⟨c, z1, z2, z3⟩ := arrO_of h
      rw [e_aC_of (by rw [h1]; exact z1), h1, h2]
      exact ⟨h, z2, z3⟩
    rcases hk with h | h | h | h | h | h <;> subst h
    · exact key 30 "CartoonHouse$Bone" rfl rfl (hw 306 (.arrayOver (.object "CartoonHouse$Bone")) (by decide +kernel))
    · exact key 33 "CartoonHouse$Drawing" rfl rfl (hw 162 (.arrayOver (.object "CartoonHouse$Drawing")) (by decide +kernel))
    · exact key 34 "CartoonHouse$Keys" rfl rfl (hw 382 (.arrayOver (.object "CartoonHouse$Keys")) (by decide +kernel))
    · exact key 35 "CartoonHouse$Layer" rfl rfl (hw 265 (.arrayOver (.object "CartoonHouse$Layer")) (by decide +kernel))
    · exact key 39 "CartoonHouse$Stroke" rfl rfl (hw 169 (.arrayOver (.object "CartoonHouse$Stroke")) (by decide +kernel))
    · exact key 42 "CartoonHouse$Kind" rfl rfl (hw 390 (.arrayOver (.object "CartoonHouse$Kind")) (by decide +kernel))
  · have h : (Jvm.Cond.arrayOver (.array .int)).before #[] s = true := hw 263 (.arrayOver (.array .int)) (by decide +kernel)
    obtain ⟨c, z1, z2⟩ := arrA_of h
    have e : e_aC s 50 = c := e_aC_of (k := 50) z1
    refine ⟨h, ?_, ?_⟩
    · show _ = some (e_aC s 50)
      rw [e]
      exact z1
    · show ArrOfT s (e_aC s 50) _
      rw [e]
      exact z2
