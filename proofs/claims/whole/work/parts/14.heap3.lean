/-! Object(), arraycopy, constants of classes, arrays of arrays, over the machine -/
section SH
variable {p : Program} {l : Launch} {e : Env} {R : Room} {s : State} {mid : MethodId} {args : Array Value} {below : List Frame} {meth : Method} {c : Code} {H : Heap} {locs : List Loc} {cells slots : Nat} {Q : State → Prop}
variable {G : SG} {m pc : Nat} {hi : AHi} {hr : AHr} {n : Nat} {LS : Array Slot} {rest : List Value}
theorem cat_le2 (v : Value) : v.category ≤ 2 := by cases v <;> simp [Value.category]
theorem cat_sum {st : List Value} (h : st.length ≤ 4) : (st.map fun v => v.category).sum ≤ 8 := by
  have key : ∀ st : List Value, (st.map fun v => v.category).sum ≤ 2 * st.length := by
    intro st
    induction st with
    | nil => simp
    | cons v r ih =>
      have := cat_le2 v
      simp only [List.map_cons, List.sum_cons, List.length_cons]
      omega
  have := key st
  omega
theorem st_obj (C : Cx p R s mid meth c m) (K : KO G s) (WA : WAll) (hLS : LS.size = a_ml m) {x : Nat} {q : Nat × Nat × Nat} (hf : a_find a_cls (a_oc m) x = some q) (hq : q.1 = 1000) (hfr : 1 ≤ a_fr m) (hlo : 20 ≤ a_lo m) {a : Nat} (hst : rest.length ≤ 4) (ha : a_isM (.ref a) = false) (hdg : decode (a_code m) pc = .ok (.invokespecial x, 3)) (hv : ∃ t, g_v G a = .ref t)
    (kk : W p l e R s mid args below meth c H locs cells slots Q (F0 mid (pc + 3) LS rest)) : W p l e R s mid args below meth c H locs cells slots Q (F0 mid pc LS (g_v G a :: rest)) := by
  obtain ⟨hx, hb, hml, hown, -, -, -, hF, hL, hm⟩ := C
  obtain ⟨m', form, pos⟩ := q
  dsimp only at hq
  subst hq
  have hw := WA.2.2.2.2.2.1 _ (a_find_mem hf)
  dsimp only at hw
  have hoc := WA.2.2.2.2.2.2.2.2.2.1 m hm
  unfold w_call at hw
  rw [if_pos rfl, hoc] at hw
  obtain ⟨-, -, -, ⟨i1, w1⟩, ⟨i2, w2⟩, -⟩ := WA.2.2.2.2.2.2.2.2.2.2.2
  obtain ⟨t, ht⟩ := hv
  rw [ht]
  have := cat_sum hst
  exact W.objInit hx hb hown (K.1.use hw rfl) (K.1.use w1 rfl) (K.1.use w2 rfl) rfl (by show LS.size = _; rw [hLS, hml]) rfl hdg (by omega) (by show 2 * 0 + _ + 12 ≤ _; omega) kk
theorem st_cp (C : Cx p R s mid meth c m) (K : KO G s) (WA : WAll) (hRl : Rl G hi hr n H) (hloc : ∀ q ∈ locs, G.1.size ≤ q.base) (hLS : LS.size = a_ml m) {x : Nat} {q : Nat × Nat × Nat} (hf : a_find a_cls (a_oc m) x = some q) (hq : q.1 = 1001) (hfr : 1 ≤ a_fr m) (hlo : 48 ≤ a_lo m) {a d : Nat} {cn dp sp : Int32} (hst : rest.length ≤ 4)
    (hk : a_kd a = 20 ∨ a_kd a = 21) (hkd : a_kd d = a_kd a) (ha : a < n) (hd : d < n) (ha43 : 43 ≤ a) (hd43 : 43 ≤ d) (h1 : ¬ sp < 0) (h2 : ¬ dp < 0) (h3 : ¬ cn < 0) (h4 : sp.toNatClampNeg + cn.toNatClampNeg ≤ a_ln (g_E G) a) (h5 : dp.toNatClampNeg + cn.toNatClampNeg ≤ a_ln (g_E G) d) (hdg : decode (a_code m) pc = .ok (.invokestatic x, 3))
    (kk : ∀ (H' : Heap) (locs' : List Loc), Rl G (a_cpy (g_E G) hi a sp.toNatClampNeg d dp.toNatClampNeg cn.toNatClampNeg) hr n H' → (∀ q ∈ locs', G.1.size ≤ q.base) → W p l e R s mid args below meth c H' locs' cells slots Q (F0 mid (pc + 3) LS rest)) :
    W p l e R s mid args below meth c H locs cells slots Q (F0 mid pc LS (.int cn :: .int dp :: g_v G d :: .int sp :: g_v G a :: rest)) := by
  obtain ⟨hx, hb, hml, hown, -, -, -, hF, hL, hm⟩ := C
  obtain ⟨m', form, pos⟩ := q
  dsimp only at hq
  subst hq
  have hw := WA.2.2.2.2.2.1 _ (a_find_mem hf)
  dsimp only at hw
  have hoc := WA.2.2.2.2.2.2.2.2.2.1 m hm
  unfold w_call at hw
  rw [if_neg (by decide), if_pos rfl, hoc] at hw
  obtain ⟨⟨i1, w1⟩, ⟨i2, w2⟩, ⟨i3, w3⟩, -⟩ := WA.2.2.2.2.2.2.2.2.2.2.2
  rw [g_v_hi ha43, g_v_hi hd43]
  have hcat := cat_sum hst
  have nn : ∀ z : Int32, ¬ z < 0 → z.toInt = (z.toNatClampNeg : Int) := by
    intro z hz
    have hz0 : (0 : Int) ≤ z.toInt := by
      have := Int32.not_lt.mp hz
      simpa using Int32.le_iff_toInt_le.mp this
    show z.toInt = ((z.toInt.toNat : Nat) : Int)
    omega
  have h3k : g_arK (a_kd a) := by rcases hk with h | h <;> rw [h] <;> simp [g_arK]
  obtain ⟨hc0, hf0⟩ := ar_w hRl rfl h3k ha ha43
  obtain ⟨hc1, hf1⟩ := ar_w hRl hkd h3k hd hd43
  obtain ⟨-, k0, hk0, cm0, hkk0⟩ := (K.2.2.1 _ h3k).2.2 (a_ln (g_E G) a) (fun j => .int (hi a j))
  have hprim : refKind (g_ty (a_kd a)) = false := by rcases hk with h | h <;> rw [h] <;> rfl
  intro T hT X
  obtain ⟨vm', X', step⟩ := X.arraycopy hx hown (K.1.use hw rfl) (K.1.use w1 rfl) (K.1.use w2 rfl) (K.1.use w3 rfl) (src := g_ad G a) (dst := g_ad G d) (cs := arrV (g_aC G (a_kd a)) (a_ln (g_E G) a) (fun j => Value.int (hi a j))) (cd := arrV (g_aC G (a_kd a)) (a_ln (g_E G) d) (fun j => Value.int (hi d j))) (srcPos := sp) (destPos := dp) (n := cn) (by rw [hT]; exact hc0) (by rw [hT]; exact hc1)
    (fun _ h => by cases h) (fun _ h => by cases h) (fun h => by cases h) (fun h => by cases h) hk0 hk0 hkk0 hkk0 (by simp [hprim]) h1 h2 h3
    (by rw [nn sp h1, nn cn h3, arrV_size]; omega)
    (by rw [nn dp h2, nn cn h3, arrV_size]; omega)
    (fun vm₁ _ i hi9 => by
      have e : (arrV (g_aC G (a_kd a)) (a_ln (g_E G) a) (fun j => Value.int (hi a j))).slots.getD (sp.toNatClampNeg + i) .null = .int (hi a (sp.toNatClampNeg + i)) := by
        rw [Array.getD_eq_getD_getElem?, arrV_read _ _ (by omega)]
        rfl
      refine ⟨?_, ?_⟩
      · rw [e]
        exact hf0 _
      · rw [e]
        exact trivial)
    (g := F0 mid pc LS (.int cn :: .int dp :: .ref (g_ad G d) :: .int sp :: .ref (g_ad G a) :: rest)) rfl (by show LS.size = _; rw [hLS, hml]) (rest := rest) rfl (by rw [hb]; exact hdg) (by omega) (by show 2 * 0 + _ + (7 + 11) ≤ _; omega)
  have e1 : copied (arrV (g_aC G (a_kd a)) (a_ln (g_E G) a) (fun j => Value.int (hi a j))) (arrV (g_aC G (a_kd a)) (a_ln (g_E G) d) (fun j => Value.int (hi d j))) sp dp cn = arrV (g_aC G (a_kd a)) (a_ln (g_E G) d) (fun j => .int (va_cpy (hi a) (hi d) sp.toNatClampNeg dp.toNatClampNeg cn.toNatClampNeg j)) := va_copied (fun z => .int z) _ _ (hi a) (hi d) h4
  rw [e1] at X' step
  have hl : g_ad G d < H.size := (Array.getElem?_eq_some_iff.mp hc1).1
  have hrow : rI (g_E G) hi a = hi a := funext fun k => rI_hi ha43
  obtain ⟨t, a1, b1⟩ := kk (H.setIfInBounds (g_ad G d) (arrV (g_aC G (a_kd a)) (a_ln (g_E G) d) (fun j => .int (va_cpy (hi a) (hi d) sp.toNatClampNeg dp.toNatClampNeg cn.toNatClampNeg j)))) _ (by
      unfold a_cpy
      rw [hrow]
      refine Rl_arr hRl (by rw [hkd]; rcases hk with h | h <;> omega) (by rw [hkd]; rcases hk with h | h <;> omega) hd hd43 ?_ ?_ (by simp) (fun q hq => by simp [Array.getElem?_setIfInBounds, Ne.symm hq])
      · rw [hkd]
        simp [Array.getElem?_setIfInBounds, hl]
      · intro j
        rw [hkd]
        unfold va_cpy
        split
        · exact hf0 _
        · exact hf1 _) (fun q hq => by
      rcases List.mem_append.mp hq with h | h
      · exact hloc q h
      · obtain ⟨z, -, hz⟩ := List.mem_map.mp h
        rw [← hz]
        show G.1.size ≤ g_ad G d
        unfold g_ad
        omega) _ (by rw [← hT]; rfl) X'
  exact ⟨t, step t a1, b1⟩
theorem st_gets (C : Cx p R s mid meth c m) (K : KO G s) (WA : WAll) (hRl : Rl G hi hr n H) {x : Nat} {q : Nat × Nat × Nat} (hf : a_find a_sts (a_oc m) x = some q) {o : AOp} (ho : a_std[q.1]?.map (·.2.2.2) = some o) (hdg : decode (a_code m) pc = .ok (.getstatic x, 3))
    (kk : W p l e R s mid args below meth c H locs cells slots Q (F0 mid (pc + 3) LS ((if o.1 = 20 then g_v G o.2.1 else .int (Int32.ofInt o.2.2.2.1)) :: rest))) : W p l e R s mid args below meth c H locs cells slots Q (F0 mid pc LS rest) := by
  obtain ⟨hx, hb, -, hown, -, -, -, -, -, hm⟩ := C
  obtain ⟨j, nest, pos⟩ := q
  obtain ⟨hw, hj⟩ := WA.2.1 _ (a_find_mem hf)
  dsimp only at hw hj ho
  have hoc := WA.2.2.2.2.2.2.2.2.2.1 m hm
  obtain ⟨d, hd, cf, kf, fi, f, a, cell, z1, z2, z3, z4, z5, z6, z7, z8⟩ := K.2.2.2.2.2.2.2.2 j hj
  rw [hd] at ho
  cases ho
  have hlt : a < G.1.size := (Array.getElem?_eq_some_iff.mp z5).1
  have hcell : H[a]? = some cell := by rw [hRl.2.2.1 a hlt]; exact z5
  have hkn : cell.vm ≠ .unknown := fun h => by rw [h] at z6; simp [VmData.isStatics] at z6
  unfold w_st at hw
  rw [hd, hoc] at hw
  dsimp only at hw
  split at hw
  · exact va_WgetsN hx hb hown (K.1.use hw rfl) z1 z2 z3 z4 hcell hkn z7 rfl hdg kk
  · exact W.gets hx hb hown (K.1.use hw rfl) z1 z2 z3 z4 hcell hkn z7 rfl hdg kk
end SH
