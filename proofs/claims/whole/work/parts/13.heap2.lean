/-! The operations on references and on new cells, over the machine -/
section SH
variable {p : Program} {l : Launch} {e : Env} {R : Room} {s : State} {mid : MethodId} {args : Array Value} {below : List Frame} {meth : Method} {c : Code} {H : Heap} {locs : List Loc} {cells slots : Nat} {Q : State → Prop}
variable {G : SG} {m pc : Nat} {hi : AHi} {hr : AHr} {n : Nat} {LS : Array Slot} {rest : List Value}
theorem g_ty_O {k : Nat} (h : g_arO k) : g_ty k = .object (c_n (k - 30)) := by
  unfold g_ty
  rcases h with h | h | h | h | h | h <;> subst h <;> rfl
/-- a cell that is an array of references -/
theorem rr_at (K : KO G s) (hR : Rl G hi hr n H) {a : Nat} (h30 : 30 ≤ a_kd a) (h50 : a_kd a ≤ 50) (ha : a < n) : ∃ (t : Nat) (cell : Cell) (ty : FieldType), g_v G a = .ref t ∧ H[t]? = some cell ∧ s.isArrayOf cell ty ∧ ty.isReference = true ∧ cell.vm ≠ .unknown ∧ (a_ln (g_E G) a ≤ cell.slots.size ∧ cell.slots.size.toInt32 = Int32.ofNat (a_ln (g_E G) a)) ∧ (∀ j, j < a_ln (g_E G) a → cell.slots[j]? = some (g_rf G (rR hr a j))) := by
  by_cases h43 : 43 ≤ a
  · have hc := hR.2.2.2 a h43 ha
    unfold g_c at hc
    rw [if_neg (by omega), if_neg (by omega), if_neg (by omega)] at hc
    obtain ⟨hk, hc⟩ := hc
    have hA : ∃ ty, s.isArrayOf (arrV (g_aC G (a_kd a)) (a_ln (g_E G) a) (fun j => g_rf G (hr a j))) ty ∧ ty.isReference = true := by
      rcases hk with hk | hk
      · exact ⟨_, (K.2.2.2.1 _ hk).2.2 _ _, by rw [g_ty_O hk]; rfl⟩
      · rw [hk]
        exact ⟨_, K.2.2.2.2.1.2.2 _ _, rfl⟩
    obtain ⟨ty, hty, hrf⟩ := hA
    refine ⟨_, _, ty, g_v_hi h43, hc, hty, hrf, fun h => (by cases h), ⟨by rw [arrV_size]; exact Nat.le_refl _, by rw [arrV_size]⟩, fun j hj => ?_⟩
    rw [arrV_read _ _ hj, rR_hi h43]
  · have h43 : a < 43 := by omega
    have h3 := (kd_12 a h43).2.2.2.2.2.2 h30 h50
    subst h3
    obtain ⟨t, cell, h1, h2, h4, h5, h6, h7⟩ := K.2.2.2.2.2.1.2.2.2.2
    have hlt : t < G.1.size := (Array.getElem?_eq_some_iff.mp h2).1
    refine ⟨t, cell, _, g_v_lo h43 h1, by rw [hR.2.2.1 t hlt]; exact h2, h4, rfl, h5, h6, fun j hj => ?_⟩
    have hj8 : j < 8 := hj
    rw [h7 j hj8, rR_lo h43]
    rcases (show j = 0 ∨ j = 1 ∨ j = 2 ∨ j = 3 ∨ j = 4 ∨ j = 5 ∨ j = 6 ∨ j = 7 by omega) with h | h | h | h | h | h | h | h <;> subst h <;> rfl
theorem st_aald (C : Cx p R s mid meth c m) (K : KO G s) (hR : Rl G hi hr n H) {a : Nat} {j : Int32} (h30 : 30 ≤ a_kd a) (h50 : a_kd a ≤ 50) (ha : a < n) (hj : ¬ (j < 0 ∨ a_ln (g_E G) a ≤ j.toNatClampNeg)) (hdg : decode (a_code m) pc = .ok (.aaload, 1))
    (kk : W p l e R s mid args below meth c H locs cells slots Q (F0 mid (pc + 1) LS (g_rf G (rR hr a j.toNatClampNeg) :: rest))) : W p l e R s mid args below meth c H locs cells slots Q (F0 mid pc LS (.int j :: g_v G a :: rest)) := by
  obtain ⟨t, cell, ty, h1, h2, h3, hr3, h4, h5, h6⟩ := rr_at K hR h30 h50 ha
  rw [h1]
  exact W.aald C.1 C.2.1 h2 h3 hr3 h4 (fun h => hj (h.elim Or.inl (fun q => Or.inr (Nat.le_trans h5.1 q)))) (h6 _ (by omega)) rfl rfl hdg kk
theorem st_alen (C : Cx p R s mid meth c m) (K : KO G s) (hR : Rl G hi hr n H) {a : Nat} (h20 : 20 ≤ a_kd a) (h50 : a_kd a ≤ 50) (ha : a < n) (hdg : decode (a_code m) pc = .ok (.arraylength, 1))
    (kk : W p l e R s mid args below meth c H locs cells slots Q (F0 mid (pc + 1) LS (.int (nI (a_ln (g_E G) a)) :: rest))) : W p l e R s mid args below meth c H locs cells slots Q (F0 mid pc LS (g_v G a :: rest)) := by
  have fin : ∀ (t : Nat) (cell : Cell) (ty : FieldType), g_v G a = .ref t → H[t]? = some cell → s.isArrayOf cell ty → (a_ln (g_E G) a ≤ cell.slots.size ∧ cell.slots.size.toInt32 = Int32.ofNat (a_ln (g_E G) a)) → W p l e R s mid args below meth c H locs cells slots Q (F0 mid pc LS (g_v G a :: rest)) := by
    intro t cell ty h1 h2 h3 h5
    rw [h1]
    exact W.alen C.1 C.2.1 h2 h3 h5.2 rfl rfl hdg kk
  by_cases h30 : 30 ≤ a_kd a
  · obtain ⟨t, cell, ty, h1, h2, h3, -, -, h5, -⟩ := rr_at K hR h30 h50 ha
    exact fin t cell ty h1 h2 h3 h5
  · have hk : g_arK (a_kd a) := by
      by_cases h43 : 43 ≤ a
      · have hc := hR.2.2.2 a h43 ha
        unfold g_c at hc
        rw [if_neg (by omega), if_neg (by omega), if_pos (by omega)] at hc
        by_cases e : g_arK (a_kd a)
        · exact e
        · exfalso
          have := hc.2 0
          unfold g_arK at e
          unfold g_ty at this
          rw [if_neg (by omega), if_neg (by omega), if_neg (by omega), if_neg (by omega)] at this
          cases this
      · have h43 : a < 43 := by omega
        have hd : ∀ a, a < 43 → 20 ≤ a_kd a → a_kd a < 30 → a_kd a = 20 ∨ a_kd a = 21 ∨ a_kd a = 22 := by decide +kernel
        exact hd a h43 h20 (by omega)
    obtain ⟨t, cell, h1, h2, h3, -, h5, -⟩ := ar_at K hR rfl hk ha
    exact fin t cell _ h1 h2 h3 h5
/-- what is stored into an array of references -/
theorem st_aast (C : Cx p R s mid meth c m) (K : KO G s) (hRl : Rl G hi hr n H) (hloc : ∀ q ∈ locs, G.1.size ≤ q.base) {a v : Nat} {j : Int32} (h30 : 30 ≤ a_kd a) (h42 : a_kd a ≤ 42) (ha : a < n) (h43 : 43 ≤ a) (hv : a_kd v + 30 = a_kd a) (hvn : v < n) (hj : ¬ (j < 0 ∨ a_ln (g_E G) a ≤ j.toNatClampNeg)) (hdg : decode (a_code m) pc = .ok (.aastore, 1))
    (kk : ∀ (H' : Heap) (locs' : List Loc), Rl G hi (hR hr a j.toNatClampNeg (some v)) n H' → (∀ q ∈ locs', G.1.size ≤ q.base) → W p l e R s mid args below meth c H' locs' cells slots Q (F0 mid (pc + 1) LS rest)) : W p l e R s mid args below meth c H locs cells slots Q (F0 mid pc LS (g_v G v :: .int j :: g_v G a :: rest)) := by
  have hc := hRl.2.2.2 a h43 ha
  unfold g_c at hc
  rw [if_neg (by omega), if_neg (by omega), if_neg (by omega)] at hc
  obtain ⟨hk, hc⟩ := hc
  have hk : g_arO (a_kd a) := by rcases hk with h | h; exact h; omega
  have hRA := (K.2.2.2.1 _ hk).2.1
  rw [g_ty_O hk] at hRA
  obtain ⟨kA, comp, k1, k2, k3, -⟩ := hRA
  have hcn : a_kd a - 30 = a_kd v := by omega
  rw [hcn] at k3
  have hval : ∃ (t : Nat) (cv : Cell) (kv : Class), g_v G v = .ref t ∧ H[t]? = some cv ∧ (∀ q, cv.vm ≠ .statics q) ∧ s.vm.classes[cv.cls]? = some kv ∧ cv.cls = comp ∧ s.vm.assignable comp comp = true := by
    by_cases hv43 : 43 ≤ v
    · have hcv := hRl.2.2.2 v hv43 hvn
      unfold g_c at hcv
      by_cases h12 : a_kd v < 12
      · rw [if_pos h12] at hcv
        obtain ⟨cell, q1, q2, q3, -⟩ := hcv
        have hcls := (K.2.1 _ h12).2
        obtain ⟨kC, hkC, -⟩ := hcls.2
        have e : comp = g_dC G (a_kd v) := Option.some.inj (k3.symm.trans hcls.1)
        subst e
        exact ⟨_, cell, kC, g_v_hi hv43, q1, (fun q h => by rw [q3] at h; cases h), by rw [q2]; exact hkC, q2, va_assign hcls⟩
      · rw [if_neg h12, if_pos (by omega)] at hcv
        exact hcv.elim
    · have hv43 : v < 43 := by omega
      obtain ⟨d1, d2, -⟩ := kd_12 v hv43
      have h12 : a_kd v = 12 := by
        by_cases h : a_kd v < 12
        · exact (d1 h).elim
        · omega
      obtain ⟨r1, r2⟩ := d2 h12
      obtain ⟨t, e1, ⟨cell, z1, z2, z3, z4⟩, -⟩ := K.2.2.2.2.2.2.1.1 v r1 r2
      have hlt : t < G.1.size := (Array.getElem?_eq_some_iff.mp z1).1
      rw [h12] at k3
      have e : comp = cell.cls := Option.some.inj (k3.symm.trans z3)
      obtain ⟨kC, hkC, -⟩ := Vm.findClass_spec k3
      refine ⟨t, cell, kC, g_v_lo hv43 e1, by rw [hRl.2.2.1 t hlt]; exact z1, ?_, by rw [← e]; exact hkC, e.symm, ?_⟩
      · intro q h
        rw [h] at z2
        simp [VmData.isStatics] at z2
      · exact va_asg _ _
  obtain ⟨t, cv, kv, v1, v2, v3, v4, v5, v6⟩ := hval
  subst v5
  rw [v1, g_v_hi h43]
  refine W.aast C.1 C.2.1 hc (fun q h => by cases h) (fun h => by cases h) k1 k2 rfl v4 ⟨fun h => hj (Or.inl h), by rw [arrV_size]; omega⟩ v2 v3 v4 v6 rfl rfl hdg fun H' z1 z2 z3 => ?_
  refine kk H' _ (Rl_set hRl h43 ha z2 z3 (fun _ _ => rfl) (fun x hx => hR_ne hx) ?_) (loc_add hloc _ _)
  unfold g_c
  rw [if_neg (by omega), if_neg (by omega), if_neg (by omega)]
  refine ⟨Or.inl hk, ?_⟩
  rw [z1, arrV_store]
  refine congrArg (fun f => some (arrV (g_aC G (a_kd a)) (a_ln (g_E G) a) f)) (funext fun i => ?_)
  rw [hR_eq]
  unfold updV va_up
  split
  · rw [← v1]; rfl
  · rfl
/-- a new cell -/
theorem Rl_new (hRl : Rl G hi hr n H) {H' : Heap} {hi' : AHi} {hr' : AHr} (z2 : H'.size = H.size + 1) (z3 : ∀ q, q < H.size → H'[q]? = H[q]?) (e1 : ∀ x, x ≠ n → hi' x = hi x) (e2 : ∀ x, x ≠ n → hr' x = hr x) (hc : g_c G hi' hr' n H') : Rl G hi' hr' (n + 1) H' := by
  obtain ⟨a1, a2, a3, a4⟩ := hRl
  refine ⟨by omega, by omega, fun a ha => by rw [z3 a (by omega)]; exact a3 a ha, fun x hx hxn => ?_⟩
  by_cases hxi : x = n
  · subst hxi
    exact hc
  · exact g_c_kept (a4 x hx (by omega)) (e1 x hxi) (e2 x hxi) (z3 _ (by unfold g_ad; omega))
theorem Rl_adn (hRl : Rl G hi hr n H) : H.size = g_ad G n := hRl.2.1
theorem s_sl_succ (G : SG) (n : Nat) : s_sl G (n + 1) = s_sl G n + s_sz G n := rfl
theorem st_new (C : Cx p R s mid meth c m) (K : KO G s) (WA : WAll) (hRl : Rl G hi hr n H) {x : Nat} {q : Nat × Nat} (hf : a_find a_nls (a_oc m) x = some q) (h12 : q.1 < 12) (hk : a_kd n = q.1) (hcells : cells + 1 ≤ R.cells) (hslots : slots + s_sz G n ≤ R.slots) (hdg : decode (a_code m) pc = .ok (.new x, 3))
    (kk : ∀ H' : Heap, Rl G (va_up hi n (fun _ => 0)) (va_up hr n (fun _ => none)) (n + 1) H' → W p l e R s mid args below meth c H' locs (cells + 1) (slots + s_sz G n) Q (F0 mid (pc + 3) LS (g_v G n :: rest))) : W p l e R s mid args below meth c H locs cells slots Q (F0 mid pc LS rest) := by
  obtain ⟨hx, hb, -, hown, -, -, -, -, -, hm⟩ := C
  obtain ⟨C, pos⟩ := q
  have hw := WA.2.2.2.2.1 _ (a_find_mem hf)
  dsimp only at hw h12 hk
  have hoc := WA.2.2.2.2.2.2.2.2.2.1 m hm
  rw [hoc, if_neg (by omega)] at hw
  have hWC := WA.2.2.2.2.2.2.2.2.1 C h12
  obtain ⟨hS, hfc, kC0, hkC0, hkind0⟩ := K.2.1 C h12
  have hsz : s_sz G n = c_N C := by unfold s_sz; rw [hk, if_pos h12]
  rw [hsz] at hslots kk
  refine W.newcK hx hb hown (K.1.use hw rfl) (K.1.use hWC.1 rfl) (K.1.use hWC.2.1 rfl) rfl hdg hcells hslots hfc (Rl_adn hRl) fun H' kC hkC z1 z2 z3 => ?_
  have hH : H.size = g_ad G n := Rl_adn hRl
  rw [← g_v_hi hRl.1]
  refine kk H' (Rl_new hRl (by omega) (fun q hq => z3 q (by omega)) (fun y hy => va_up_ne _ _ hy) (fun y hy => va_up_ne _ _ hy) ?_)
  unfold g_c
  rw [if_pos (by omega), hk]
  have hpar : ∀ k, k < c_N C → parseFieldDescriptor (c_T C k).2.2.1 = some ((parseFieldDescriptor (c_T C k).2.2.1).getD .int) := by
    intro k hk
    obtain ⟨ty, hty⟩ := Option.isSome_iff_exists.mp (hWC.2.2.1 k hk).2.1
    rw [hty]; rfl
  have hborn := u_born (ws := u_ws (c_n C) (c_T C) (c_N C)) (args := args) (fun k => (parseFieldDescriptor (c_T C k).2.2.1).getD .int) (u_hts K WA h12) (fun _ h => h) (K.2.1 C h12) hkC z1 hpar
  refine hborn.to (fun k hk => ?_)
  unfold g_fv
  rw [va_up_self, va_up_self]
  obtain ⟨-, -, -, hr1, hr2⟩ := hWC.2.2.1 k hk
  cases hR : c_R C k with
  | true =>
    obtain ⟨ty, h1, h2⟩ := hr1.mp hR
    rw [h1]
    cases ty <;> simp [FieldType.isReference] at h2 <;> rfl
  | false =>
    rcases hr2 hR with h | h <;> rw [h] <;> rfl
theorem st_newa (C : Cx p R s mid meth c m) (K : KO G s) (hRl : Rl G hi hr n H) {k : Nat} (hk3 : g_arK k) {atype : ArrayType} (hty : newarray.typeOf atype = g_ty k) (hk : a_kd n = k) {j : Int32} (hj : ¬ j < 0) (hln : a_ln (g_E G) n = j.toNatClampNeg) (hbig : j.toNatClampNeg ≤ 60000) (hcells : cells + 1 ≤ R.cells) (hslots : slots + s_sz G n ≤ R.slots) (hdg : decode (a_code m) pc = .ok (.newarray atype, 2))
    (kk : ∀ H' : Heap, Rl G (va_up hi n (fun _ => 0)) hr (n + 1) H' → W p l e R s mid args below meth c H' locs (cells + 1) (slots + s_sz G n) Q (F0 mid (pc + 2) LS (g_v G n :: rest))) : W p l e R s mid args below meth c H locs cells slots Q (F0 mid pc LS (.int j :: rest)) := by
  have h30 : k < 30 ∧ 20 ≤ k := by rcases hk3 with h | h | h <;> omega
  have hsz : s_sz G n = j.toNatClampNeg := by unfold s_sz; rw [if_neg (by omega), hln]
  rw [hsz] at hslots kk
  obtain ⟨w1, w2, w3⟩ := K.2.2.1 k hk3
  have hH : H.size = g_ad G n := Rl_adn hRl
  have hdv : defaultValue (newarray.typeOf atype) = .int 0 := by rw [hty]; rcases hk3 with h | h | h <;> subst h <;> rfl
  refine W.newa C.1 C.2.1 (by rw [hty]; exact w1) rfl hdg rfl hj (by rw [hty]; rcases hk3 with h | h | h <;> subst h <;> show j.toNatClampNeg * _ ≤ _ <;> simp [g_ty, componentBytes] <;> omega) hcells hslots fun cA kA comp h1 h2 h3 => ?_
  rw [hty, w2] at h1
  cases h1
  rw [hdv, arrV_new, hH]
  rw [← g_v_hi hRl.1]
  refine kk _ (Rl_new hRl (by simp) (fun q hq => by rw [Array.getElem?_push, if_neg (Nat.ne_of_lt hq)]) (fun y hy => va_up_ne _ _ hy) (fun _ _ => rfl) ?_)
  unfold g_c
  rw [if_neg (by omega), if_neg (by omega), if_pos (by omega), va_up_self, hk]
  refine ⟨?_, fun i => by rcases hk3 with h | h | h <;> subst h <;> rfl⟩
  rw [← hH, hln]
  simp
theorem st_anew (C : Cx p R s mid meth c m) (K : KO G s) (WA : WAll) (hRl : Rl G hi hr n H) {x : Nat} {q : Nat × Nat} (hf : a_find a_nls (a_oc m) x = some q) (hkO : g_arO (30 + q.1)) (hk : a_kd n = 30 + q.1) {j : Int32} (hj : ¬ j < 0) (hln : a_ln (g_E G) n = j.toNatClampNeg) (hbig : j.toNatClampNeg ≤ 60000) (hcells : cells + 1 ≤ R.cells) (hslots : slots + s_sz G n ≤ R.slots) (hdg : decode (a_code m) pc = .ok (.anewarray x, 3))
    (kk : ∀ H' : Heap, Rl G hi (va_up hr n (fun _ => none)) (n + 1) H' → W p l e R s mid args below meth c H' locs (cells + 1) (slots + s_sz G n) Q (F0 mid (pc + 3) LS (g_v G n :: rest))) : W p l e R s mid args below meth c H locs cells slots Q (F0 mid pc LS (.int j :: rest)) := by
  obtain ⟨hx, hb, -, hown, -, -, -, -, -, hm⟩ := C
  obtain ⟨C, pos⟩ := q
  have hw := WA.2.2.2.2.1 _ (a_find_mem hf)
  dsimp only at hw hk hkO
  have hoc := WA.2.2.2.2.2.2.2.2.2.1 m hm
  have h13 : C < 13 := by unfold g_arO at hkO; omega
  rw [hoc, if_neg (by omega)] at hw
  have hsz : s_sz G n = j.toNatClampNeg := by unfold s_sz; rw [if_neg (by omega), hln]
  rw [hsz] at hslots kk
  obtain ⟨w1, w2, w3⟩ := K.2.2.2.1 _ hkO
  rw [Nat.add_sub_cancel_left] at w1
  rw [g_ty_O hkO, Nat.add_sub_cancel_left] at w2
  obtain ⟨kA0, comp0, -, -, -, w5⟩ := w2
  have hH : H.size = g_ad G n := Rl_adn hRl
  refine W.anew hx hb hown (K.1.use hw rfl) (va_AO.use w1) rfl hdg rfl hj (by omega) hcells hslots fun cA kA comp h1 h2 h3 h4 => ?_
  rw [w5] at h1
  cases h1
  rw [arrV_new, hH]
  rw [← g_v_hi hRl.1]
  refine kk _ (Rl_new hRl (by simp) (fun q hq => by rw [Array.getElem?_push, if_neg (Nat.ne_of_lt hq)]) (fun _ _ => rfl) (fun y hy => va_up_ne _ _ hy) ?_)
  unfold g_c
  rw [if_neg (by omega), if_neg (by omega), if_neg (by omega), va_up_self, hk]
  refine ⟨Or.inl hkO, ?_⟩
  rw [← hH, hln]
  simp
  rfl
end SH
