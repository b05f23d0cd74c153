/-! The operations on the heap, over the machine -/
section SH
variable {p : Program} {l : Launch} {e : Env} {R : Room} {s : State} {mid : MethodId} {args : Array Value} {below : List Frame} {meth : Method} {c : Code} {H : Heap} {locs : List Loc} {cells slots : Nat} {Q : State → Prop}
variable {G : SG} {m pc : Nat} {hi : AHi} {hr : AHr} {n : Nat} {LS : Array Slot} {rest : List Value}
theorem kd_12 : ∀ a, a < 43 → (a_kd a < 12 → False) ∧ (a_kd a = 12 → 4 ≤ a ∧ a < 12) ∧ (a_kd a = 13 → 12 ≤ a ∧ a < 27) ∧ (a_kd a = 20 → a < 3) ∧ (a_kd a = 21 → 28 ≤ a) ∧ a_kd a ≠ 22 ∧ (30 ≤ a_kd a → a_kd a ≤ 50 → a = 3) := by decide +kernel
theorem rI_lo {E : AEn} {h : AHi} {a k : Nat} (h1 : a < 43) (h0 : 0 < a) : rI E h a k = a_cI a k := by
  unfold rI
  rw [show Nat.blt a 43 = true from by simp [Nat.blt]; omega, show Nat.beq a 0 = false from Bool.eq_false_iff.mpr (fun h => by have := Nat.eq_of_beq_eq_true h; omega)]
  rfl
theorem rI_any {E : AEn} {h h' : AHi} {a k : Nat} (h1 : a < 43) : rI E h a k = rI E h' a k := by
  unfold rI
  rw [show Nat.blt a 43 = true from by simp [Nat.blt]; omega]
  rfl
theorem rI_hi {E : AEn} {h : AHi} {a k : Nat} (h1 : 43 ≤ a) : rI E h a k = h a k := by
  unfold rI
  rw [show Nat.blt a 43 = false from Bool.eq_false_iff.mpr (fun h => by have := Nat.le_of_ble_eq_true h; omega)]
  rfl
theorem rR_lo {h : AHr} {a k : Nat} (h1 : a < 43) : rR h a k = a_cR a k := by
  unfold rR
  rw [show Nat.blt a 43 = true from by simp [Nat.blt]; omega]
  rfl
theorem rR_hi {h : AHr} {a k : Nat} (h1 : 43 ≤ a) : rR h a k = h a k := by
  unfold rR
  rw [show Nat.blt a 43 = false from Bool.eq_false_iff.mpr (fun h => by have := Nat.le_of_ble_eq_true h; omega)]
  rfl
theorem g_v_lo {id t : Nat} (h : id < 43) (ht : G.2.1 id = some t) : g_v G id = .ref t := by
  unfold g_v
  rw [if_pos h, ht]
  rfl
theorem u_hts {c : Nat} (K : KO G s) (WA : WAll) (hc : c < 12) : ∀ w ∈ u_ws (c_n c) (c_T c) (c_N c), w.before args s = true := by
  intro w hw
  obtain ⟨k, hk, rfl⟩ := List.mem_map.mp hw
  have h := ((WA.2.2.2.2.2.2.2.2.1 c hc).2.2.1 k (List.mem_range.mp hk)).1
  refine K.1.use h ?_
  unfold u_lay
  split <;> rfl
theorem st_get (C : Cx p R s mid meth c m) (K : KO G s) (WA : WAll) (hR : Rl G hi hr n H) {x : Nat} {q : Nat × Nat × Nat × Nat} (hf : a_find a_fls (a_oc m) x = some q) {a : Nat} (hk : a_kd a = q.1) (ha : a < n) (hdg : decode (a_code m) pc = .ok (.getfield x, 3))
    (kk : W p l e R s mid args below meth c H locs cells slots Q (F0 mid (pc + 3) LS ((bif c_R q.1 q.2.1 then g_rf G (rR hr a q.2.1) else .int (rI (g_E G) hi a q.2.1)) :: rest))) : W p l e R s mid args below meth c H locs cells slots Q (F0 mid pc LS (g_v G a :: rest)) := by
  obtain ⟨hx, hb, -, hown, -, -, -, -, -, hm⟩ := C
  obtain ⟨C, k, nest, pos⟩ := q
  obtain ⟨hw, hC, hkN⟩ := WA.1 _ (a_find_mem hf)
  dsimp only at hw hC hkN hk kk
  have hoc := WA.2.2.2.2.2.2.2.2.2.1 m hm
  have fin : ∀ (t : Nat) (cell : Cell) (v : Value) (cf i : Nat) (kf : Class) (f : Field), g_v G a = .ref t → s.fieldFound? (c_T C k).1 (c_T C k).2.1 (c_T C k).2.2.1 = some (cf, kf, i, f) → f.isStatic = false → H[t]? = some cell → cell.vm ≠ .unknown → cell.slots[f.slot]? = some v → v = (bif c_R C k then g_rf G (rR hr a k) else .int (rI (g_E G) hi a k)) → W p l e R s mid args below meth c H locs cells slots Q (F0 mid pc LS (g_v G a :: rest)) := by
    intro t cell v cf i kf f e1 e2 e3 e4 e5 e6 e7
    rw [e1]
    rw [← e7] at kk
    unfold w_fld at hw
    rw [hoc] at hw
    split at hw
    · exact va_Wgetf hx hb hown (K.1.use hw rfl) e2 e3 e4 e5 e6 rfl rfl hdg kk
    · exact W.getf hx hb hown (K.1.use hw rfl) e2 e3 e4 e5 e6 rfl rfl hdg kk
  by_cases h43 : 43 ≤ a
  · have hc := hR.2.2.2 a h43 ha
    unfold g_c at hc
    by_cases h12 : a_kd a < 12
    · rw [if_pos h12, hk] at hc
      rw [hk] at h12
      obtain ⟨cell, q1, q2, q3, q4⟩ := hc
      obtain ⟨hS, hfc, kC, hkC, hkind⟩ := K.2.1 C h12
      obtain ⟨cf, kf, fi, f, hi', hsl⟩ := hS k hkN
      refine fin _ cell _ cf fi kf f (g_v_hi h43) hi' (u_facts hfc hkC (u_lays (u_hts (args := args) K WA h12) (fun _ h => h) hkN) hi').1 q1 (by rw [q3]; exact fun h => by cases h) (by rw [hsl]; exact q4 k hkN) ?_
      unfold g_fv
      rw [rR_hi h43, rI_hi h43]
    · rw [if_neg h12, if_pos (by omega)] at hc
      exact hc.elim
  · have h43 : a < 43 := by omega
    obtain ⟨k1, k2, k3, -⟩ := kd_12 a h43
    have hcase : (C = 12 ∧ KObj G s a 12) ∨ (C = 13 ∧ KObj G s a 13) := by
      by_cases h12 : C < 12
      · exact (k1 (by omega)).elim
      · by_cases h1 : C = 12
        · obtain ⟨r1, r2⟩ := k2 (by omega)
          exact Or.inl ⟨h1, K.2.2.2.2.2.2.1.1 a r1 r2⟩
        · obtain ⟨r1, r2⟩ := k3 (by omega)
          exact Or.inr ⟨by omega, K.2.2.2.2.2.2.1.2 a r1 r2⟩
    have ha0 : 0 < a := by
      rcases hcase with ⟨h, -⟩ | ⟨h, -⟩
      · have := k2 (by omega); omega
      · have := k3 (by omega); omega
    have go : KObj G s a C → W p l e R s mid args below meth c H locs cells slots Q (F0 mid pc LS (g_v G a :: rest)) := by
      rintro ⟨t, h1, -, h3⟩
      obtain ⟨cf, kf, fi, f, cell, z1, z2, z3, z4, z5, z6⟩ := h3 k hkN
      have hlt : t < G.1.size := (Array.getElem?_eq_some_iff.mp z3).1
      refine fin t cell _ cf fi kf f (g_v_lo h43 h1) z1 z2 (by rw [hR.2.2.1 t hlt]; exact z3) z4 z5 ?_
      rw [rR_lo h43, rI_lo h43 ha0]
    rcases hcase with ⟨rfl, h⟩ | ⟨rfl, h⟩ <;> exact go h
theorem st_put (C : Cx p R s mid meth c m) (K : KO G s) (WA : WAll) (hR : Rl G hi hr n H) (hloc : ∀ q ∈ locs, G.1.size ≤ q.base) {x : Nat} {q : Nat × Nat × Nat × Nat} (hf : a_find a_fls (a_oc m) x = some q) (hq12 : q.1 < 12) (hfin : (c_T q.1 q.2.1).2.2.2 = false ∨ ((a_y m).name = "<init>" ∧ q.1 = a_oc m ∧ q.2.2.1 = 0)) {a : Nat} (hk : a_kd a = q.1) (ha : a < n) (h43 : 43 ≤ a) (hdg : decode (a_code m) pc = .ok (.putfield x, 3))
    {v : Value} {hi' : AHi} {hr' : AHr} {ty : FieldType} (hd : parseFieldDescriptor (c_T q.1 q.2.1).2.2.1 = some ty) (hn : narrow ty v = v) (hfit : fits ty v = true)
    (e1 : ∀ y, y ≠ a → hi' y = hi y) (e2 : ∀ y, y ≠ a → hr' y = hr y) (e3 : ∀ k, g_fv G hi' hr' a q.1 k = updV (g_fv G hi hr a q.1) q.2.1 v k)
    (kk : ∀ (H' : Heap) (locs' : List Loc), Rl G hi' hr' n H' → (∀ q ∈ locs', G.1.size ≤ q.base) → W p l e R s mid args below meth c H' locs' cells slots Q (F0 mid (pc + 3) LS rest)) : W p l e R s mid args below meth c H locs cells slots Q (F0 mid pc LS (v :: g_v G a :: rest)) := by
  obtain ⟨hx, hb, -, hown, -, -, hinit, -, -, hm⟩ := C
  obtain ⟨C, k, nest, pos⟩ := q
  obtain ⟨hw, hC, hkN⟩ := WA.1 _ (a_find_mem hf)
  dsimp only at hw hC hkN hk hq12 hfin hd e3
  have hoc := WA.2.2.2.2.2.2.2.2.2.1 m hm
  have hWC := WA.2.2.2.2.2.2.2.2.1 C hq12
  have hc := hR.2.2.2 a h43 ha
  unfold g_c at hc
  rw [if_pos (by omega), hk] at hc
  obtain ⟨cell, q1, q2, q3, q4⟩ := hc
  have hts := u_hts (args := args) K WA hq12
  obtain ⟨hS, hfc, kC, hkC, hkind⟩ := K.2.1 C hq12
  obtain ⟨cf, kf, fi, f, hi0, hsl⟩ := hS k hkN
  have hst := (u_facts hfc hkC (u_lays hts (fun _ h => h) hkN) hi0).1
  have hap : ∀ x y, x < c_N C → y < c_N C → x ≠ y → g_dI G C x ≠ g_dI G C y := by
    intro x y hx hy hne
    obtain ⟨_, _, _, fa, hia, ea⟩ := hS x hx
    obtain ⟨_, _, _, fb, hib, eb⟩ := hS y hy
    rw [← ea, ← eb]
    refine u_apart (u_lays hts (fun _ h => h) hx) (u_lays hts (fun _ h => h) hy) hia hib ?_
    obtain ⟨tx, htx⟩ := Option.isSome_iff_exists.mp (hWC.2.2.1 x hx).2.1
    obtain ⟨ty, hty⟩ := Option.isSome_iff_exists.mp (hWC.2.2.1 y hy).2.1
    rw [(State.fieldFound?_type hia htx).1, (State.fieldFound?_type hib hty).1]
    exact hWC.2.2.2 x hx y hy hne
  have hlay := hts _ (u_in_lay hkN)
  rw [g_v_hi h43]
  have after : ∀ H' : Heap, H'[g_ad G a]? = some (cell.setSlot f.slot v) → H'.size = H.size → (∀ q, q ≠ g_ad G a → H'[q]? = H[q]?) → W p l e R s mid args below meth c H' (locs ++ [⟨g_ad G a, f.slot⟩]) cells slots Q (F0 mid (pc + 3) LS rest) := by
    intro H' z1 z2 z3
    refine kk H' _ (Rl_set hR h43 ha z2 z3 e1 e2 ?_) ?_
    · unfold g_c
      rw [if_pos (by omega), hk]
      rw [hsl] at z1
      exact t_OB.to (V := updV (g_fv G hi hr a C) k v) ⟨_, z1, q2, q3, t_set q4 hap hkN v⟩ (fun j _ => (e3 j).symm)
    · intro q hq
      rcases List.mem_append.mp hq with hq | hq
      · exact hloc q hq
      · rw [List.mem_singleton.mp hq]
        show G.1.size ≤ g_ad G a
        unfold g_ad
        omega
  have hft : fits ty v = true := hfit
  have h6 := u_fits hfc hkC hkind (u_lays hts (fun _ h => h) hkN) hi0 hd hn hfit
  have hlt : f.slot < cell.slots.size := by rw [hsl]; exact k2_hasslot (q4 k hkN)
  have hvm : cell.vm ≠ .unknown := by rw [q3]; exact fun h => by cases h
  have hfin2 : hasFlag f.accessFlags Acc.final = false ∨ (mid.cls = cf ∧ meth.name = "<init>") := by
    unfold u_lay at hlay
    split at hlay
    · rename_i hF
      right
      rcases hfin with h | ⟨h1, h2, -⟩
      · rw [h] at hF; cases hF
      · obtain ⟨_, _, c', _, _, _, -, -, hf', -, -, -, hown2, -⟩ := Cond.laysFinal_spec hlay
        have e1 : c' = cf := by have := hi0.symm.trans hf'; simp at this; exact this.1.symm
        refine ⟨?_, hinit h1⟩
        rw [(hWC.2.2.1 k hkN).2.2.1, h2, hoc] at hown2
        rw [← e1]
        exact Option.some.inj (hown.symm.trans hown2)
    · exact Or.inl (u_store hfc hkC hkind hlay hi0 hd hn hfit).1
  have hset1 : (H.setIfInBounds (g_ad G a) (cell.setSlot f.slot v))[g_ad G a]? = some (cell.setSlot f.slot v) := by
    have ha : g_ad G a < H.size := (Array.getElem?_eq_some_iff.mp q1).1
    simp [Array.getElem?_setIfInBounds, ha]
  have hset3 : ∀ q, q ≠ g_ad G a → (H.setIfInBounds (g_ad G a) (cell.setSlot f.slot v))[q]? = H[q]? := by
    intro q hq
    simp [Array.getElem?_setIfInBounds, Ne.symm hq]
  unfold w_fld at hw
  rw [hoc] at hw
  split at hw
  · exact va_Wputf hx hb hown (K.1.use hw rfl) hi0 hst hfin2 q1 hvm hlt h6.1 (by rw [q2, q3]; exact h6.2) rfl rfl hdg (after _ hset1 (by simp) hset3)
  · exact W.putf hx hb hown (K.1.use hw rfl) hi0 hst hfin2 q1 hvm hlt h6.1 (by rw [q2, q3]; exact h6.2) rfl rfl hdg (after _ hset1 (by simp) hset3)
/-- a cell that is an array of whole numbers -/
theorem ar_at (K : KO G s) (hR : Rl G hi hr n H) {a k : Nat} (hk : a_kd a = k) (h3 : g_arK k) (ha : a < n) : ∃ (t : Nat) (cell : Cell), g_v G a = .ref t ∧ H[t]? = some cell ∧ s.isArrayOf cell (g_ty k) ∧ cell.vm ≠ .unknown ∧ (a_ln (g_E G) a ≤ cell.slots.size ∧ cell.slots.size.toInt32 = Int32.ofNat (a_ln (g_E G) a)) ∧ (∀ j, j < a_ln (g_E G) a → cell.slots[j]? = some (Value.int (rI (g_E G) hi a j))) := by
  have h30 : k < 30 ∧ 20 ≤ k := by rcases h3 with h | h | h <;> omega
  by_cases h43 : 43 ≤ a
  · have hc := hR.2.2.2 a h43 ha
    unfold g_c at hc
    rw [if_neg (by omega), if_neg (by omega), if_pos (by omega), hk] at hc
    refine ⟨_, _, g_v_hi h43, hc.1, (K.2.2.1 k h3).2.2 _ _, fun h => (by cases h), ⟨by rw [arrV_size]; exact Nat.le_refl _, by rw [arrV_size]⟩, fun j hj => ?_⟩
    rw [arrV_read _ _ hj, rI_hi h43]
  · have h43 : a < 43 := by omega
    obtain ⟨-, -, -, k4, k5, k6, -⟩ := kd_12 a h43
    have hK : KArr G s a (g_ty k) := by
      rcases h3 with h | h | h
      · subst h
        have h3 := k4 hk
        have hAll := K.2.2.2.2.2.1
        rcases (show a = 0 ∨ a = 1 ∨ a = 2 by omega) with rfl | rfl | rfl
        · exact hAll.1
        · exact hAll.2.1
        · exact hAll.2.2.1
      · subst h
        exact K.2.2.2.2.2.1.2.2.2.1 a (k5 hk) h43
      · subst h
        exact (k6 hk).elim
    obtain ⟨t, cell, h1, h2, h4, h5, h6, h7⟩ := hK
    have hlt : t < G.1.size := (Array.getElem?_eq_some_iff.mp h2).1
    refine ⟨t, cell, g_v_lo h43 h1, by rw [hR.2.2.1 t hlt]; exact h2, h4, h5, h6, fun j hj => ?_⟩
    rw [h7 j hj, rI_any h43]
theorem st_iald (C : Cx p R s mid meth c m) (K : KO G s) (hR : Rl G hi hr n H) {a : Nat} {j : Int32} (hk : a_kd a = 20) (ha : a < n) (hj : ¬ (j < 0 ∨ a_ln (g_E G) a ≤ j.toNatClampNeg)) (hdg : decode (a_code m) pc = .ok (.iaload, 1))
    (kk : W p l e R s mid args below meth c H locs cells slots Q (F0 mid (pc + 1) LS (.int (rI (g_E G) hi a j.toNatClampNeg) :: rest))) : W p l e R s mid args below meth c H locs cells slots Q (F0 mid pc LS (.int j :: g_v G a :: rest)) := by
  obtain ⟨t, cell, h1, h2, h3, h4, h5, h6⟩ := ar_at K hR hk (Or.inl rfl) ha
  rw [h1]
  exact W.iald C.1 C.2.1 h2 h3 h4 (fun h => hj (h.elim Or.inl (fun q => Or.inr (Nat.le_trans h5.1 q)))) (h6 _ (by omega)) rfl rfl hdg kk
theorem st_bald (C : Cx p R s mid meth c m) (K : KO G s) (hR : Rl G hi hr n H) {a : Nat} {j : Int32} (hk : a_kd a = 21 ∨ a_kd a = 22) (ha : a < n) (hj : ¬ (j < 0 ∨ a_ln (g_E G) a ≤ j.toNatClampNeg)) (hdg : decode (a_code m) pc = .ok (.baload, 1))
    (kk : W p l e R s mid args below meth c H locs cells slots Q (F0 mid (pc + 1) LS (.int (rI (g_E G) hi a j.toNatClampNeg) :: rest))) : W p l e R s mid args below meth c H locs cells slots Q (F0 mid pc LS (.int j :: g_v G a :: rest)) := by
  rcases hk with hk | hk
  · obtain ⟨t, cell, h1, h2, h3, h4, h5, h6⟩ := ar_at K hR hk (Or.inr (Or.inl rfl)) ha
    rw [h1]
    exact W.bald C.1 C.2.1 h2 h3 h4 (fun h => hj (h.elim Or.inl (fun q => Or.inr (Nat.le_trans h5.1 q)))) (h6 _ (by omega)) rfl rfl hdg kk
  · obtain ⟨t, cell, h1, h2, h3, h4, h5, h6⟩ := ar_at K hR hk (Or.inr (Or.inr rfl)) ha
    rw [h1]
    exact W.zald C.1 C.2.1 h2 h3 h4 (fun h => hj (h.elim Or.inl (fun q => Or.inr (Nat.le_trans h5.1 q)))) (h6 _ (by omega)) rfl rfl hdg kk
/-- writing into an array of whole numbers -/
theorem Rl_arr (hR : Rl G hi hr n H) {a : Nat} (h20 : 20 ≤ a_kd a) (h30 : a_kd a < 30) (ha : a < n) (h43 : 43 ≤ a) {H' : Heap} {f : Nat → Int32} (z1 : H'[g_ad G a]? = some (arrV (g_aC G (a_kd a)) (a_ln (g_E G) a) (fun j => .int (f j)))) (hf : ∀ j, fits (g_ty (a_kd a)) (.int (f j)) = true) (z2 : H'.size = H.size) (z3 : ∀ q, q ≠ g_ad G a → H'[q]? = H[q]?) : Rl G (va_up hi a f) hr n H' := by
  refine Rl_set hR h43 ha z2 z3 (fun x hx => va_up_ne _ _ hx) (fun _ _ => rfl) ?_
  unfold g_c
  rw [if_neg (by omega), if_neg (by omega), if_pos h30, va_up_self]
  exact ⟨z1, hf⟩
theorem ar_w (hR : Rl G hi hr n H) {a k : Nat} (hk : a_kd a = k) (h3 : g_arK k) (ha : a < n) (h43 : 43 ≤ a) : H[g_ad G a]? = some (arrV (g_aC G k) (a_ln (g_E G) a) (fun j => .int (hi a j))) ∧ ∀ j, fits (g_ty k) (.int (hi a j)) = true := by
  have h30 : k < 30 ∧ 20 ≤ k := by rcases h3 with h | h | h <;> omega
  have hc := hR.2.2.2 a h43 ha
  unfold g_c at hc
  rw [if_neg (by omega), if_neg (by omega), if_pos (by omega), hk] at hc
  exact hc
theorem loc_add (hloc : ∀ q ∈ locs, G.1.size ≤ q.base) (a i : Nat) : ∀ q ∈ locs ++ [⟨g_ad G a, i⟩], G.1.size ≤ q.base := by
  intro q hq
  rcases List.mem_append.mp hq with hq | hq
  · exact hloc q hq
  · rw [List.mem_singleton.mp hq]
    show G.1.size ≤ g_ad G a
    unfold g_ad
    omega
theorem st_iast (C : Cx p R s mid meth c m) (K : KO G s) (hR : Rl G hi hr n H) (hloc : ∀ q ∈ locs, G.1.size ≤ q.base) {a : Nat} {j v : Int32} (hk : a_kd a = 20) (ha : a < n) (h43 : 43 ≤ a) (hj : ¬ (j < 0 ∨ a_ln (g_E G) a ≤ j.toNatClampNeg)) (hdg : decode (a_code m) pc = .ok (.iastore, 1))
    (kk : ∀ (H' : Heap) (locs' : List Loc), Rl G (hI hi a j.toNatClampNeg v) hr n H' → (∀ q ∈ locs', G.1.size ≤ q.base) → W p l e R s mid args below meth c H' locs' cells slots Q (F0 mid (pc + 1) LS rest)) : W p l e R s mid args below meth c H locs cells slots Q (F0 mid pc LS (.int v :: .int j :: g_v G a :: rest)) := by
  obtain ⟨h1, h2⟩ := ar_w hR hk (Or.inl rfl) ha h43
  rw [g_v_hi h43]
  refine W.iast C.1 C.2.1 h1 ((K.2.2.1 20 (Or.inl rfl)).2.2 _ _) (fun h => by cases h) (by rw [arrV_size]; exact hj) rfl rfl hdg fun H' z1 z2 z3 => ?_
  refine kk H' _ (Rl_arr hR (by omega) (by omega) ha h43 (f := va_up (hi a) j.toNatClampNeg v) ?_ ?_ z2 z3) (loc_add hloc _ _)
  · rw [z1, arrV_store, hk]
    refine congrArg (fun f => some (arrV (g_aC G 20) (a_ln (g_E G) a) f)) (funext fun i => ?_)
    unfold updV va_up
    split <;> rfl
  · intro i
    rw [hk]
    rfl
theorem st_bast (C : Cx p R s mid meth c m) (K : KO G s) (hR : Rl G hi hr n H) (hloc : ∀ q ∈ locs, G.1.size ≤ q.base) {a : Nat} {j v : Int32} (hk : a_kd a = 21 ∨ a_kd a = 22) (ha : a < n) (h43 : 43 ≤ a) (hj : ¬ (j < 0 ∨ a_ln (g_E G) a ≤ j.toNatClampNeg)) (hdg : decode (a_code m) pc = .ok (.bastore, 1))
    (kk : ∀ (H' : Heap) (locs' : List Loc), Rl G (hI hi a j.toNatClampNeg (if a_kd a = 21 then a_byte v else a_bool v)) hr n H' → (∀ q ∈ locs', G.1.size ≤ q.base) → W p l e R s mid args below meth c H' locs' cells slots Q (F0 mid (pc + 1) LS rest)) : W p l e R s mid args below meth c H locs cells slots Q (F0 mid pc LS (.int v :: .int j :: g_v G a :: rest)) := by
  rw [g_v_hi h43]
  rcases hk with hk | hk
  · obtain ⟨h1, h2⟩ := ar_w hR hk (Or.inr (Or.inl rfl)) ha h43
    refine W.bast C.1 C.2.1 h1 ((K.2.2.1 21 (Or.inr (Or.inl rfl))).2.2 _ _) (fun h => by cases h) (by rw [arrV_size]; exact hj) rfl rfl hdg fun H' z1 z2 z3 => ?_
    have hnar : narrow .byte (.int v) = .int (a_byte v) := rfl
    refine kk H' _ (Rl_arr hR (by omega) (by omega) ha h43 (f := va_up (hi a) j.toNatClampNeg (if a_kd a = 21 then a_byte v else a_bool v)) ?_ ?_ z2 z3) (loc_add hloc _ _)
    · rw [z1, hnar, arrV_store, hk]
      refine congrArg (fun f => some (arrV (g_aC G 21) (a_ln (g_E G) a) f)) (funext fun i => ?_)
      unfold updV va_up
      split <;> rfl
    · intro i
      rw [hk]
      unfold va_up
      split
      · exact pk_fb v
      · exact h2 i
  · obtain ⟨h1, h2⟩ := ar_w hR hk (Or.inr (Or.inr rfl)) ha h43
    refine W.zast C.1 C.2.1 h1 ((K.2.2.1 22 (Or.inr (Or.inr rfl))).2.2 _ _) (fun h => by cases h) (by rw [arrV_size]; exact hj) rfl rfl hdg fun H' z1 z2 z3 => ?_
    have hnar : narrow .boolean (.int v) = .int (a_bool v) := rfl
    refine kk H' _ (Rl_arr hR (by omega) (by omega) ha h43 (f := va_up (hi a) j.toNatClampNeg (if a_kd a = 21 then a_byte v else a_bool v)) ?_ ?_ z2 z3) (loc_add hloc _ _)
    · rw [z1, hnar, arrV_store, hk]
      refine congrArg (fun f => some (arrV (g_aC G 22) (a_ln (g_E G) a) f)) (funext fun i => ?_)
      unfold updV va_up
      split <;> rfl
    · intro i
      rw [hk]
      unfold va_up
      split
      · show fits .boolean (.int (a_bool v)) = true
        have hv : a_bool v = 0 ∨ a_bool v = 1 := by
          obtain ⟨j', hj', e⟩ := pk_andE v (m := 1) 1 (by decide)
          have e2 : a_bool v = nI j' := e
          rcases (show j' = 0 ∨ j' = 1 by omega) with h | h <;> subst h
          · exact Or.inl e2
          · exact Or.inr e2
        rcases hv with h | h <;> rw [h] <;> rfl
      · exact h2 i
end SH
