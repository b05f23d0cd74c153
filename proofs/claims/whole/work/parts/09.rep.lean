/-! How a heap of the machine holds an abstract one -/
abbrev SG : Type := Heap × (Nat → Option Nat) × (Nat → ClassId) × (Nat → Nat → Nat) × (Nat → ClassId) × AEn
def g_E (G : SG) : AEn := G.2.2.2.2.2
def g_dC (G : SG) : Nat → ClassId := G.2.2.1
def g_dI (G : SG) : Nat → Nat → Nat := G.2.2.2.1
def g_aC (G : SG) : Nat → ClassId := G.2.2.2.2.1
def g_ad (G : SG) (id : Nat) : Nat := G.1.size + (id - 43)
def g_v (G : SG) (id : Nat) : Value := if id < 43 then va_rf (G.2.1 id) else .ref (g_ad G id)
def g_e (G : SG) : Value → Value
  | .ref i => g_v G i
  | v => v
def g_rf (G : SG) : Option Nat → Value
  | none => .null
  | some i => g_v G i
def g_ty (k : Nat) : FieldType := if k = 20 then .int else if k = 21 then .byte else if k = 22 then .boolean else if k = 50 then .array .int else .object (c_n (k - 30))
def g_fv (G : SG) (hi : AHi) (hr : AHr) (id c k : Nat) : Value := bif c_R c k then g_rf G (hr id k) else .int (hi id k)
def g_arK (k : Nat) : Prop := k = 20 ∨ k = 21 ∨ k = 22
def g_arO (k : Nat) : Prop := k = 30 ∨ k = 33 ∨ k = 34 ∨ k = 35 ∨ k = 39 ∨ k = 42
def g_c (G : SG) (hi : AHi) (hr : AHr) (id : Nat) (H : Heap) : Prop :=
  if a_kd id < 12 then t_OB (g_ad G id) (g_dC G (a_kd id)) (c_N (a_kd id)) (g_dI G (a_kd id)) H (g_fv G hi hr id (a_kd id))
  else if a_kd id < 20 then False
  else if a_kd id < 30 then H[g_ad G id]? = some (arrV (g_aC G (a_kd id)) (a_ln (g_E G) id) (fun j => .int (hi id j))) ∧ ∀ j, fits (g_ty (a_kd id)) (.int (hi id j)) = true
  else (g_arO (a_kd id) ∨ a_kd id = 50) ∧ H[g_ad G id]? = some (arrV (g_aC G (a_kd id)) (a_ln (g_E G) id) (fun j => g_rf G (hr id j)))
def Rl (G : SG) (hi : AHi) (hr : AHr) (n : Nat) (H : Heap) : Prop :=
  43 ≤ n ∧ H.size = G.1.size + (n - 43) ∧ (∀ a, a < G.1.size → H[a]? = G.1[a]?) ∧ ∀ id, 43 ≤ id → id < n → g_c G hi hr id H
def s_sz (G : SG) (id : Nat) : Nat := if a_kd id < 12 then c_N (a_kd id) else a_ln (g_E G) id
def s_sl (G : SG) : Nat → Nat
  | 0 => 0
  | n + 1 => s_sl G n + s_sz G n
theorem g_v_hi {G : SG} {id : Nat} (h : 43 ≤ id) : g_v G id = .ref (g_ad G id) := by unfold g_v; rw [if_neg (by omega)]
theorem g_e_ref (G : SG) (o : Option Nat) : g_e G (a_ref o) = g_rf G o := by cases o <;> rfl
theorem g_ad_inj {G : SG} {x y : Nat} (hx : 43 ≤ x) (hy : 43 ≤ y) (h : g_ad G x = g_ad G y) : x = y := by unfold g_ad at h; omega
/-- a cell kept -/
theorem g_c_kept {G : SG} {hi hi' : AHi} {hr hr' : AHr} {id : Nat} {H H' : Heap} (h : g_c G hi hr id H) (e1 : hi' id = hi id) (e2 : hr' id = hr id) (e : H'[g_ad G id]? = H[g_ad G id]?) : g_c G hi' hr' id H' := by
  unfold g_c at h ⊢
  split
  · rename_i hk
    rw [if_pos hk] at h
    refine (h.kept e).to (fun k _ => ?_)
    unfold g_fv
    rw [e1, e2]
  · rename_i hk
    rw [if_neg hk] at h
    split
    · rename_i h2
      rw [if_pos h2] at h
      exact h
    · rename_i h2
      rw [if_neg h2] at h
      split
      · rename_i h3
        rw [if_pos h3] at h
        rw [e, e1]
        exact h
      · rename_i h3
        rw [if_neg h3] at h
        rw [e, e2]
        exact h
/-- one cell is another: the rest stays -/
theorem Rl_set {G : SG} {hi hi' : AHi} {hr hr' : AHr} {n id : Nat} {H H' : Heap} (h : Rl G hi hr n H) (h43 : 43 ≤ id) (hn : id < n) (hs : H'.size = H.size) (ho : ∀ q, q ≠ g_ad G id → H'[q]? = H[q]?)
    (e1 : ∀ x, x ≠ id → hi' x = hi x) (e2 : ∀ x, x ≠ id → hr' x = hr x) (hc : g_c G hi' hr' id H') : Rl G hi' hr' n H' := by
  obtain ⟨a1, a2, a3, a4⟩ := h
  refine ⟨a1, by rw [hs]; exact a2, fun a ha => by rw [ho a (by unfold g_ad; omega)]; exact a3 a ha, fun x hx hxn => ?_⟩
  by_cases hxi : x = id
  · subst hxi
    exact hc
  · exact g_c_kept (a4 x hx hxn) (e1 x hxi) (e2 x hxi) (ho _ (fun q => hxi (g_ad_inj hx h43 q)))
theorem hI_ne {h : AHi} {a k : Nat} {v : Int32} {x : Nat} (hx : x ≠ a) : hI h a k v x = h x := by unfold hI; exact va_up_ne _ _ hx
theorem hI_eq {h : AHi} {a k : Nat} {v : Int32} : hI h a k v a = va_up (h a) k v := by unfold hI; exact va_up_self _ _ _
theorem hR_ne {h : AHr} {a k : Nat} {v : Option Nat} {x : Nat} (hx : x ≠ a) : hR h a k v x = h x := by unfold hR; exact va_up_ne _ _ hx
theorem hR_eq {h : AHr} {a k : Nat} {v : Option Nat} : hR h a k v a = va_up (h a) k v := by unfold hR; exact va_up_self _ _ _
/-! The locals -/
theorem g_v_or (G : SG) (id : Nat) : g_v G id = .null ∨ ∃ t, g_v G id = .ref t := by
  unfold g_v
  split
  · cases G.2.1 id with
    | none => exact Or.inl rfl
    | some t => exact Or.inr ⟨t, rfl⟩
  · exact Or.inr ⟨_, rfl⟩
theorem g_v_cat (G : SG) (id : Nat) : (g_v G id).category = 1 := by
  rcases g_v_or G id with h | ⟨t, h⟩ <;> rw [h] <;> rfl
theorem g_e_cat {G : SG} {v : Value} : (g_e G v).category = v.category := by
  cases v <;> first | rfl | exact g_v_cat G _
def lvl (G : SG) (ls : List Value) : List (Nat × Value) := (List.range ls.length).filterMap fun i => match ls[i]? with
  | some v => if a_isM v = true then none else some (i, g_e G v)
  | none => none
def lvr (G : SG) (LS : Array Slot) (n : Nat) (ls : List Value) : Prop := ls.length = n ∧ LS.size = n ∧ lv_wf LS ∧ ∀ (i : Nat) (v : Value), ls[i]? = some v → a_isM v = false → LS[i]? = some (Slot.val (g_e G v))
theorem lvl_mem {G : SG} {ls : List Value} {i : Nat} {w : Value} : (i, w) ∈ lvl G ls ↔ ∃ v, ls[i]? = some v ∧ a_isM v = false ∧ w = g_e G v := by
  unfold lvl
  rw [List.mem_filterMap]
  constructor
  · rintro ⟨j, hj, h⟩
    cases hv : ls[j]? with
    | none => simp [hv] at h
    | some v =>
      simp only [hv] at h
      split at h
      · cases h
      · rename_i hm
        cases h
        exact ⟨v, hv, by simpa using hm, rfl⟩
  · rintro ⟨v, hv, hm, rfl⟩
    refine ⟨i, List.mem_range.mpr (List.getElem?_eq_some_iff.mp hv).1, ?_⟩
    simp [hv, hm]
theorem lvr_has {G : SG} {LS : Array Slot} {n : Nat} {ls : List Value} (h : lvr G LS n ls) : lv_has LS n (lvl G ls) := by
  refine ⟨h.2.1, h.2.2.1, fun q hq => ?_⟩
  obtain ⟨i, w⟩ := q
  obtain ⟨v, hv, hm, rfl⟩ := lvl_mem.mp hq
  exact h.2.2.2 i v hv hm
theorem a_st1_get {ls : List Value} {i j : Nat} {v w : Value} (h : (a_st1 ls i v)[j]? = some w) (hm : a_isM w = false) : (j = i ∧ w = v) ∨ (j ≠ i ∧ ls[j]? = some w ∧ ¬ (j + 1 = i ∧ ∃ x, w = .long x)) := by
  unfold a_st1 at h
  split at h
  · rw [List.getElem?_set] at h
    by_cases hj : 0 = j
    · subst hj
      simp at h
      exact Or.inl ⟨rfl, h.2.symm⟩
    · rw [if_neg hj] at h
      exact Or.inr ⟨fun q => hj q.symm, h, by omega⟩
  · rename_i k
    split at h
    · rename_i x hx
      rw [List.getElem?_set] at h
      by_cases hj : k + 1 = j
      · subst hj
        simp at h
        exact Or.inl ⟨rfl, h.2.symm⟩
      · rw [if_neg hj, List.getElem?_set] at h
        by_cases hk : k = j
        · subst hk
          simp at h
          rw [← h.2] at hm
          simp [a_isM, a_mk] at hm
        · rw [if_neg hk] at h
          exact Or.inr ⟨fun q => hj q.symm, h, fun q => hk (by omega)⟩
    · rename_i hx
      rw [List.getElem?_set] at h
      by_cases hj : k + 1 = j
      · subst hj
        simp at h
        exact Or.inl ⟨rfl, h.2.symm⟩
      · rw [if_neg hj] at h
        refine Or.inr ⟨fun q => hj q.symm, h, ?_⟩
        rintro ⟨q1, x, rfl⟩
        have : j = k := by omega
        subst this
        exact hx x h
theorem a_st1_len (ls : List Value) (i : Nat) (v : Value) : (a_st1 ls i v).length = ls.length := by
  unfold a_st1
  split
  · simp
  · split <;> simp
theorem lvr_st1 {G : SG} {LS LS' : Array Slot} {n i : Nat} {ls : List Value} {v : Value} (h : lvr G LS n ls)
    (h' : lv_has LS' n ((i, g_e G v) :: (lvl G ls).filter (fun q => !(q.1 == i) && !(q.1 + 1 == i && q.2.category == 2)))) : lvr G LS' n (a_st1 ls i v) := by
  refine ⟨by rw [a_st1_len]; exact h.1, h'.1, h'.2.1, fun j w hw hm => ?_⟩
  rcases a_st1_get hw hm with ⟨rfl, rfl⟩ | ⟨hj, hw, hn⟩
  · exact h'.2.2 _ List.mem_cons_self
  · refine h'.2.2 (j, g_e G w) (List.mem_cons_of_mem _ (List.mem_filter.mpr ⟨lvl_mem.mpr ⟨w, hw, hm, rfl⟩, ?_⟩))
    simp only [Bool.and_eq_true, Bool.not_eq_true', beq_eq_false_iff_ne, ne_eq, Bool.and_eq_false_iff]
    refine ⟨hj, ?_⟩
    by_cases hji : j + 1 = i
    · right
      intro hc
      apply hn
      refine ⟨hji, ?_⟩
      rw [g_e_cat] at hc
      cases w with
      | long x => exact ⟨x, rfl⟩
      | _ => simp [Value.category, a_isM] at hc hm
    · exact Or.inl hji
theorem lvr_st2 {G : SG} {LS LS' : Array Slot} {n i : Nat} {ls : List Value} {v : Value} (h : lvr G LS n ls)
    (h' : lv_has LS' n ((i, g_e G v) :: (lvl G ls).filter (fun q => !(q.1 == i) && (!(q.1 == i + 1) && !(q.1 + 1 == i && q.2.category == 2))))) : lvr G LS' n (a_st2 ls i v) := by
  refine ⟨by unfold a_st2; rw [List.length_set, a_st1_len]; exact h.1, h'.1, h'.2.1, fun j w hw hm => ?_⟩
  unfold a_st2 at hw
  rw [List.getElem?_set] at hw
  by_cases hj1 : i + 1 = j
  · rw [if_pos hj1] at hw
    split at hw
    · cases hw
      simp [a_isM, a_mk] at hm
    · cases hw
  · rw [if_neg hj1] at hw
    rcases a_st1_get hw hm with ⟨rfl, rfl⟩ | ⟨hj, hw, hn⟩
    · exact h'.2.2 _ List.mem_cons_self
    · refine h'.2.2 (j, g_e G w) (List.mem_cons_of_mem _ (List.mem_filter.mpr ⟨lvl_mem.mpr ⟨w, hw, hm, rfl⟩, ?_⟩))
      simp only [Bool.and_eq_true, Bool.not_eq_true', beq_eq_false_iff_ne, ne_eq, Bool.and_eq_false_iff]
      refine ⟨hj, fun q => hj1 q.symm, ?_⟩
      by_cases hji : j + 1 = i
      · right
        intro hc
        apply hn
        refine ⟨hji, ?_⟩
        rw [g_e_cat] at hc
        cases w with
        | long x => exact ⟨x, rfl⟩
        | _ => simp [Value.category, a_isM] at hc hm
      · exact Or.inl hji
theorem lg_sl_len (G : SG) : ∀ vs : List Value, (∀ v ∈ vs, a_isM v = false) → (lg_sl (vs.map (g_e G))).length = (a_args vs).length
  | [], _ => rfl
  | v :: r, h => by
    have ih := lg_sl_len G r (fun w hw => h w (List.mem_cons_of_mem _ hw))
    have hv := h v List.mem_cons_self
    cases v with
    | long x => simp [lg_sl, a_args, g_e, Value.category] at ih ⊢; omega
    | ref a =>
      have := g_v_cat G a
      simp [lg_sl, a_args, g_e, this] at ih ⊢; omega
    | int x => simp [lg_sl, a_args, g_e, Value.category] at ih ⊢; omega
    | null => simp [lg_sl, a_args, g_e, Value.category] at ih ⊢; omega
    | _ => simp [a_isM] at hv
theorem lv_args_mem (G : SG) : ∀ (vs : List Value) (k i : Nat) (v : Value), (∀ u ∈ vs, a_isM u = false) → (a_args vs)[i]? = some v → a_isM v = false → (k + i, g_e G v) ∈ lv_args k (vs.map (g_e G))
  | [], k, i, v, _, h, _ => by simp [a_args] at h
  | w :: r, k, i, v, ha, h, hm => by
    have hw := ha w List.mem_cons_self
    have key : ∀ (d : Nat) (pre : List Value), (a_args (w :: r)) = pre ++ a_args r → pre.length = d → (∀ j u, pre[j]? = some u → a_isM u = false → j = 0 ∧ u = w) → (if (g_e G w).category = 2 then k + 2 else k + 1) = k + d → (k + i, g_e G v) ∈ lv_args k ((w :: r).map (g_e G)) := by
      intro d pre h1 h2 h3 h4
      rw [h1] at h
      rw [List.map_cons, lv_args, h4]
      by_cases hi : i < d
      · rw [List.getElem?_append_left (by omega)] at h
        obtain ⟨rfl, rfl⟩ := h3 i v h hm
        exact List.mem_cons_self
      · rw [List.getElem?_append_right (by omega)] at h
        have := lv_args_mem G r (k + d) (i - pre.length) v (fun u hu => ha u (List.mem_cons_of_mem _ hu)) h hm
        rw [show k + d + (i - pre.length) = k + i by omega] at this
        exact List.mem_cons_of_mem _ this
    have one : ∀ (hc : w.category = 1) (ho : a_args (w :: r) = [w] ++ a_args r), (k + i, g_e G v) ∈ lv_args k ((w :: r).map (g_e G)) := by
      intro hc ho
      refine key 1 [w] ho rfl ?_ (by rw [g_e_cat, hc]; rfl)
      intro j u hj hu
      rcases j with _ | j
      · simp at hj; exact ⟨rfl, hj.symm⟩
      · simp at hj
    cases w with
    | long x =>
      refine key 2 [.long x, a_mk] rfl rfl ?_ (by simp [g_e, Value.category])
      intro j u hj hu
      rcases j with _ | _ | j
      · simp at hj; exact ⟨rfl, hj.symm⟩
      · simp at hj; rw [← hj] at hu; simp [a_isM, a_mk] at hu
      · simp at hj
    | int x => exact one rfl rfl
    | ref x => exact one rfl rfl
    | null => exact one rfl rfl
    | _ => simp [a_isM] at hw
/-- the locals at a method's entry -/
theorem lvr_entry (G : SG) {vs : List Value} {n : Nat} (ha : ∀ u ∈ vs, a_isM u = false) (hn : (a_args vs).length ≤ n) :
    lvr G ((lg_sl (vs.map (g_e G)) ++ List.replicate (n - (lg_sl (vs.map (g_e G))).length) Slot.unset).toArray) n (a_pad n (a_args vs)) := by
  have hl := lg_sl_len G vs ha
  obtain ⟨h1, h2, h3⟩ := lv_entry (vs.map (g_e G)) (n := n) (by omega)
  refine ⟨by simp [a_pad]; omega, h1, h2, fun i v hv hm => ?_⟩
  unfold a_pad at hv
  by_cases hi : i < (a_args vs).length
  · rw [List.getElem?_append_left hi] at hv
    have := lv_args_mem G vs 0 i v ha hv hm
    rw [Nat.zero_add] at this
    exact h3 _ this
  · rw [List.getElem?_append_right (by omega), List.getElem?_replicate] at hv
    split at hv
    · cases hv
      simp [a_isM, a_mk] at hm
    · cases hv
