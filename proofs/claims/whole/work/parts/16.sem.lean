/-! One operation that neither jumps nor calls, over the machine -/
section SH
variable {p : Program} {l : Launch} {e : Env} {R : Room} {s : State} {mid : MethodId} {args : Array Value} {below : List Frame} {meth : Method} {c : Code} {H : Heap} {locs : List Loc} {Q : State → Prop}
variable {G : SG} {m pc : Nat} {hi : AHi} {hr : AHr} {n nE : Nat} {LS : Array Slot} {ls st : List Value}
theorem s_sl_mono (G : SG) {a b : Nat} (h : a ≤ b) : s_sl G a ≤ s_sl G b := by
  induction h with
  | refl => exact Nat.le_refl _
  | step _ ih => exact Nat.le_trans ih (Nat.le_add_right _ _)
theorem s_sl_rows (G : SG) (n N K : Nat) (h : ∀ i, i < N → s_sz G (n + i) = K) : s_sl G (n + N) = s_sl G n + N * K := by
  induction N with
  | zero => simp
  | succ N ih =>
    rw [← Nat.add_assoc, s_sl_succ, ih (fun i hi => h i (by omega)), h N (by omega), Nat.succ_mul]
    omega
theorem Rl_any {G : SG} {hi : AHi} {hr : AHr} {n : Nat} {H : Heap} (h : Rl G hi hr n H) : 43 ≤ n := h.1
/-- what is known behind the operation -/
def Kk (p : Program) (l : Launch) (e : Env) (R : Room) (s : State) (mid : MethodId) (args : Array Value) (below : List Frame) (meth : Method) (c : Code) (Q : State → Prop) (G : SG) (m pc nE : Nat) (S : ASt) : Prop :=
  ∀ (H' : Heap) (locs' : List Loc) (LS' : Array Slot), Rl G S.2.2.1 S.2.2.2.1 S.2.2.2.2 H' → (∀ q ∈ locs', G.1.size ≤ q.base) → lvr G LS' (a_ml m) S.1 → W p l e R s mid args below meth c H' locs' (S.2.2.2.2 - nE) (s_sl G S.2.2.2.2 - s_sl G nE) Q (F0 mid pc LS' (S.2.1.map (g_e G)))
set_option maxHeartbeats 4000000 in
theorem st_sem (C : Cx p R s mid meth c m) (K : KO G s) (WA : WAll) (hRl : Rl G hi hr n H) (hL : lvr G LS (a_ml m) ls) (hloc : ∀ q ∈ locs, G.1.size ≤ q.base) {i : Instr} {len : Nat} {o : AOp} (hdec : decode (a_code m) pc = .ok (i, len)) (hchk : a_chk m pc len i o = true) {S : ASt} (hsem : a_sem (g_E G) o ls st hi hr n = some S)
    (hnE : nE ≤ n) (hcells : S.2.2.2.2 - nE ≤ R.cells) (hslots : s_sl G S.2.2.2.2 - s_sl G nE ≤ R.slots) (kk : Kk p l e R s mid args below meth c Q G m (pc + len) nE S) : W p l e R s mid args below meth c H locs (n - nE) (s_sl G n - s_sl G nE) Q (F0 mid pc LS (st.map (g_e G))) := by
  have hx := C.1
  have hb := C.2.1
  have hown := C.2.2.2.1
  have hm := C.2.2.2.2.2.2.2.2.2
  have hoc := WA.2.2.2.2.2.2.2.2.2.1 m hm
  have hLh := lvr_has hL
  have hLl := hL.1
  cases i
  case iconst v =>
    simp only [a_chk, a_ok1, Bool.and_eq_true, beq_iff_eq, decide_eq_true_eq] at hchk
    obtain ⟨rfl, rfl⟩ := hchk
    rw [sem_I] at hsem
    cases hsem
    exact lv_iconst hx hb hdec rfl (kk H locs LS hRl hloc hL)
  case bipush v =>
    simp only [a_chk, a_ok1, Bool.and_eq_true, beq_iff_eq, decide_eq_true_eq] at hchk
    obtain ⟨rfl, rfl⟩ := hchk
    rw [sem_I] at hsem
    cases hsem
    exact lv_bipush hx hb hdec rfl (kk H locs LS hRl hloc hL)
  case sipush v =>
    simp only [a_chk, a_ok1, Bool.and_eq_true, beq_iff_eq, decide_eq_true_eq] at hchk
    obtain ⟨rfl, rfl⟩ := hchk
    rw [sem_I] at hsem
    cases hsem
    exact lv_sipush hx hb hdec rfl (kk H locs LS hRl hloc hL)
  case lconst v =>
    simp only [a_chk, a_ok1, Bool.and_eq_true, beq_iff_eq, decide_eq_true_eq] at hchk
    obtain ⟨rfl, rfl⟩ := hchk
    rw [sem_L] at hsem
    cases hsem
    exact lv_lconst hx hb hdec rfl (kk H locs LS hRl hloc hL)
  case ldc x =>
    simp only [a_chk] at hchk
    split at hchk
    · rename_i q hf
      simp only [a_ok1, Bool.and_eq_true, beq_iff_eq, decide_eq_true_eq] at hchk
      obtain ⟨rfl, rfl⟩ := hchk
      rw [sem_I] at hsem
      cases hsem
      have hw := WA.2.2.1 _ (a_find_mem hf)
      dsimp only at hw
      rw [hoc] at hw
      exact lv_ldc hx hb hown (K.1.use hw rfl) hdec (kk H locs LS hRl hloc hL)
    · cases hchk
  case ldc_w x =>
    simp only [a_chk] at hchk
    split at hchk
    · rename_i q hf
      simp only [a_ok1, Bool.and_eq_true, beq_iff_eq, decide_eq_true_eq] at hchk
      obtain ⟨rfl, rfl⟩ := hchk
      rw [sem_I] at hsem
      cases hsem
      have hw := WA.2.2.1 _ (a_find_mem hf)
      dsimp only at hw
      rw [hoc] at hw
      exact lv_ldcw hx hb hown (K.1.use hw rfl) hdec (kk H locs LS hRl hloc hL)
    · cases hchk
  case ldc2_w x =>
    simp only [a_chk] at hchk
    split at hchk
    · rename_i q hf
      simp only [a_ok1, Bool.and_eq_true, beq_iff_eq, decide_eq_true_eq] at hchk
      obtain ⟨rfl, rfl⟩ := hchk
      rw [sem_L] at hsem
      cases hsem
      have hw := WA.2.2.2.1 _ (a_find_mem hf)
      dsimp only at hw
      rw [hoc] at hw
      exact lv_ldc2 hx hb hown (K.1.use hw rfl) hdec (kk H locs LS hRl hloc hL)
    · cases hchk
  case iload k =>
    simp only [a_chk, a_ok1, Bool.and_eq_true, beq_iff_eq, decide_eq_true_eq] at hchk
    obtain ⟨rfl, rfl⟩ := hchk
    obtain ⟨x, h1, rfl⟩ := inv_il hsem
    exact lv_iload hx hb hdec (hL.2.2.2 _ _ h1 rfl) (kk H locs LS hRl hloc hL)
  case iload_n k =>
    simp only [a_chk, a_ok1, Bool.and_eq_true, beq_iff_eq, decide_eq_true_eq] at hchk
    obtain ⟨rfl, rfl⟩ := hchk
    obtain ⟨x, h1, rfl⟩ := inv_il hsem
    exact lv_iload_n hx hb hdec rfl (hL.2.2.2 _ _ h1 rfl) (kk H locs LS hRl hloc hL)
  case lload k =>
    simp only [a_chk, a_ok1, Bool.and_eq_true, beq_iff_eq, decide_eq_true_eq] at hchk
    obtain ⟨rfl, rfl⟩ := hchk
    obtain ⟨x, h1, rfl⟩ := inv_ll hsem
    exact lv_lload hx hb hdec (hL.2.2.2 _ _ h1 rfl) (kk H locs LS hRl hloc hL)
  case lload_n k =>
    simp only [a_chk, a_ok1, Bool.and_eq_true, beq_iff_eq, decide_eq_true_eq] at hchk
    obtain ⟨rfl, rfl⟩ := hchk
    obtain ⟨x, h1, rfl⟩ := inv_ll hsem
    exact lv_lload_n hx hb hdec rfl (hL.2.2.2 _ _ h1 rfl) (kk H locs LS hRl hloc hL)
  case aload k =>
    simp only [a_chk, a_ok1, Bool.and_eq_true, beq_iff_eq, decide_eq_true_eq] at hchk
    obtain ⟨rfl, rfl⟩ := hchk
    obtain ⟨v, h1, hv, rfl⟩ := inv_al hsem
    have h2 := hL.2.2.2 _ _ h1 (by rcases hv with rfl | ⟨x, rfl⟩ <;> rfl)
    have hk := kk H locs LS hRl hloc hL
    have hg : g_e G v = .null ∨ ∃ t, g_e G v = .ref t := by
      rcases hv with rfl | ⟨x, rfl⟩
      · exact Or.inl rfl
      · exact g_v_or G x
    dsimp only at hk
    rw [List.map_cons] at hk
    rcases hg with h | ⟨t, h⟩
    · rw [h] at h2 hk
      exact lv_aloadN hx hb hdec h2 hk
    · rw [h] at h2 hk
      exact lv_aload hx hb hdec h2 hk
  case istore k =>
    simp only [a_chk, a_ok1, Bool.and_eq_true, beq_iff_eq, decide_eq_true_eq] at hchk
    obtain ⟨rfl, rfl⟩ := hchk
    obtain ⟨x, st', rfl, h1, rfl⟩ := inv_is hsem
    exact lv_istore hx hb hdec hLh (by omega) rfl (fun LS' h' => kk H locs LS' hRl hloc (lvr_st1 (v := .int x) hL h'))
  case lstore k =>
    simp only [a_chk, a_ok1, Bool.and_eq_true, beq_iff_eq, decide_eq_true_eq] at hchk
    obtain ⟨rfl, rfl⟩ := hchk
    obtain ⟨x, st', rfl, h1, rfl⟩ := inv_lst hsem
    exact lv_lstore hx hb hdec hLh (by omega) rfl (fun LS' h' => kk H locs LS' hRl hloc (lvr_st2 (v := .long x) hL h'))
  case astore k =>
    simp only [a_chk, a_ok1, Bool.and_eq_true, beq_iff_eq, decide_eq_true_eq] at hchk
    obtain ⟨rfl, rfl⟩ := hchk
    obtain ⟨v, st', rfl, hv, h1, rfl⟩ := inv_as hsem
    have hg : g_e G v = .null ∨ ∃ t, g_e G v = .ref t := by
      rcases hv with rfl | ⟨x, rfl⟩
      · exact Or.inl rfl
      · exact g_v_or G x
    rw [List.map_cons]
    rcases hg with h | ⟨t, h⟩
    · rw [h]
      exact lv_astoreN hx hb hdec hLh (by omega) rfl (fun LS' h' => kk H locs LS' hRl hloc (lvr_st1 (v := v) hL (by rw [h]; exact h')))
    · rw [h]
      exact lv_astore hx hb hdec hLh (by omega) rfl (fun LS' h' => kk H locs LS' hRl hloc (lvr_st1 (v := v) hL (by rw [h]; exact h')))
  case aload_n k =>
    simp only [a_chk, a_ok1, Bool.and_eq_true, beq_iff_eq, decide_eq_true_eq] at hchk
    obtain ⟨rfl, rfl⟩ := hchk
    obtain ⟨v, h1, hv, rfl⟩ := inv_al hsem
    have h2 := hL.2.2.2 _ _ h1 (by rcases hv with rfl | ⟨x, rfl⟩ <;> rfl)
    have hk := kk H locs LS hRl hloc hL
    have hg : g_e G v = .null ∨ ∃ t, g_e G v = .ref t := by
      rcases hv with rfl | ⟨x, rfl⟩
      · exact Or.inl rfl
      · exact g_v_or G x
    dsimp only at hk
    rw [List.map_cons] at hk
    rcases hg with h | ⟨t, h⟩
    · rw [h] at h2 hk
      exact lv_aload_nN hx hb hdec rfl h2 hk
    · rw [h] at h2 hk
      exact lv_aload_n hx hb hdec rfl h2 hk
  case istore_n k =>
    simp only [a_chk, a_ok1, Bool.and_eq_true, beq_iff_eq, decide_eq_true_eq] at hchk
    obtain ⟨rfl, rfl⟩ := hchk
    obtain ⟨x, st', rfl, h1, rfl⟩ := inv_is hsem
    exact lv_istore_n hx hb hdec rfl hLh (by omega) rfl (fun LS' h' => kk H locs LS' hRl hloc (lvr_st1 (v := .int x) hL h'))
  case lstore_n k =>
    simp only [a_chk, a_ok1, Bool.and_eq_true, beq_iff_eq, decide_eq_true_eq] at hchk
    obtain ⟨rfl, rfl⟩ := hchk
    obtain ⟨x, st', rfl, h1, rfl⟩ := inv_lst hsem
    exact lv_lstore_n hx hb hdec rfl hLh (by omega) rfl (fun LS' h' => kk H locs LS' hRl hloc (lvr_st2 (v := .long x) hL h'))
  case astore_n k =>
    simp only [a_chk, a_ok1, Bool.and_eq_true, beq_iff_eq, decide_eq_true_eq] at hchk
    obtain ⟨rfl, rfl⟩ := hchk
    obtain ⟨v, st', rfl, hv, h1, rfl⟩ := inv_as hsem
    have hg : g_e G v = .null ∨ ∃ t, g_e G v = .ref t := by
      rcases hv with rfl | ⟨x, rfl⟩
      · exact Or.inl rfl
      · exact g_v_or G x
    rw [List.map_cons]
    rcases hg with h | ⟨t, h⟩
    · rw [h]
      exact lv_astore_nN hx hb hdec rfl hLh (by omega) rfl (fun LS' h' => kk H locs LS' hRl hloc (lvr_st1 (v := v) hL (by rw [h]; exact h')))
    · rw [h]
      exact lv_astore_n hx hb hdec rfl hLh (by omega) rfl (fun LS' h' => kk H locs LS' hRl hloc (lvr_st1 (v := v) hL (by rw [h]; exact h')))
  case iinc k v =>
    simp only [a_chk, a_ok1, Bool.and_eq_true, beq_iff_eq, decide_eq_true_eq] at hchk
    obtain ⟨rfl, rfl⟩ := hchk
    obtain ⟨x, h1, rfl⟩ := inv_iinc hsem
    obtain ⟨kq, hkq⟩ := List.getElem?_of_mem (lvl_mem.mpr ⟨.int x, h1, rfl, rfl⟩ : (k, g_e G (.int x)) ∈ lvl G ls)
    exact lv_iinc hx hb hdec hLh hkq rfl (by have := (List.getElem?_eq_some_iff.mp h1).1; omega) rfl (fun LS' h' => kk H locs LS' hRl hloc (lvr_st1 (v := .int (x + Int32.ofInt v)) hL h'))
  case iadd =>
    simp only [a_chk, a_ok1, Bool.and_eq_true, beq_iff_eq, decide_eq_true_eq] at hchk
    obtain ⟨rfl, rfl⟩ := hchk
    obtain ⟨x, y, z, st', rfl, h1, rfl⟩ := inv_bin hsem
    cases h1
    exact lv_iadd hx hb hdec (kk H locs LS hRl hloc hL)
  case isub =>
    simp only [a_chk, a_ok1, Bool.and_eq_true, beq_iff_eq, decide_eq_true_eq] at hchk
    obtain ⟨rfl, rfl⟩ := hchk
    obtain ⟨x, y, z, st', rfl, h1, rfl⟩ := inv_bin hsem
    cases h1
    exact lv_isub hx hb hdec (kk H locs LS hRl hloc hL)
  case imul =>
    simp only [a_chk, a_ok1, Bool.and_eq_true, beq_iff_eq, decide_eq_true_eq] at hchk
    obtain ⟨rfl, rfl⟩ := hchk
    obtain ⟨x, y, z, st', rfl, h1, rfl⟩ := inv_bin hsem
    cases h1
    exact lv_imul hx hb hdec (kk H locs LS hRl hloc hL)
  case iand =>
    simp only [a_chk, a_ok1, Bool.and_eq_true, beq_iff_eq, decide_eq_true_eq] at hchk
    obtain ⟨rfl, rfl⟩ := hchk
    obtain ⟨x, y, z, st', rfl, h1, rfl⟩ := inv_bin hsem
    cases h1
    exact lv_iand hx hb hdec (kk H locs LS hRl hloc hL)
  case ior =>
    simp only [a_chk, a_ok1, Bool.and_eq_true, beq_iff_eq, decide_eq_true_eq] at hchk
    obtain ⟨rfl, rfl⟩ := hchk
    obtain ⟨x, y, z, st', rfl, h1, rfl⟩ := inv_bin hsem
    cases h1
    exact lv_ior hx hb hdec (kk H locs LS hRl hloc hL)
  case ixor =>
    simp only [a_chk, a_ok1, Bool.and_eq_true, beq_iff_eq, decide_eq_true_eq] at hchk
    obtain ⟨rfl, rfl⟩ := hchk
    obtain ⟨x, y, z, st', rfl, h1, rfl⟩ := inv_bin hsem
    cases h1
    exact lv_ixor hx hb hdec (kk H locs LS hRl hloc hL)
  case ishl =>
    simp only [a_chk, a_ok1, Bool.and_eq_true, beq_iff_eq, decide_eq_true_eq] at hchk
    obtain ⟨rfl, rfl⟩ := hchk
    obtain ⟨x, y, z, st', rfl, h1, rfl⟩ := inv_bin hsem
    cases h1
    exact lv_ishl hx hb hdec (kk H locs LS hRl hloc hL)
  case ishr =>
    simp only [a_chk, a_ok1, Bool.and_eq_true, beq_iff_eq, decide_eq_true_eq] at hchk
    obtain ⟨rfl, rfl⟩ := hchk
    obtain ⟨x, y, z, st', rfl, h1, rfl⟩ := inv_bin hsem
    cases h1
    exact lv_ishr hx hb hdec (kk H locs LS hRl hloc hL)
  case iushr =>
    simp only [a_chk, a_ok1, Bool.and_eq_true, beq_iff_eq, decide_eq_true_eq] at hchk
    obtain ⟨rfl, rfl⟩ := hchk
    obtain ⟨x, y, z, st', rfl, h1, rfl⟩ := inv_bin hsem
    cases h1
    exact lv_iushr hx hb hdec rfl (kk H locs LS hRl hloc hL)
  case idiv =>
    simp only [a_chk, a_ok1, Bool.and_eq_true, beq_iff_eq, decide_eq_true_eq] at hchk
    obtain ⟨rfl, rfl⟩ := hchk
    obtain ⟨x, y, z, st', rfl, h1, rfl⟩ := inv_bin hsem
    simp only [a_bin] at h1
    split at h1
    · cases h1
    · rename_i h0
      cases h1
      exact lv_idiv hx hb hdec h0 (kk H locs LS hRl hloc hL)
  case irem =>
    simp only [a_chk, a_ok1, Bool.and_eq_true, beq_iff_eq, decide_eq_true_eq] at hchk
    obtain ⟨rfl, rfl⟩ := hchk
    obtain ⟨x, y, z, st', rfl, h1, rfl⟩ := inv_bin hsem
    simp only [a_bin] at h1
    split at h1
    · cases h1
    · rename_i h0
      cases h1
      exact lv_irem hx hb hdec h0 (kk H locs LS hRl hloc hL)
  case ladd =>
    simp only [a_chk, a_ok1, Bool.and_eq_true, beq_iff_eq, decide_eq_true_eq] at hchk
    obtain ⟨rfl, rfl⟩ := hchk
    obtain ⟨x, y, z, st', rfl, h1, rfl⟩ := inv_binL hsem
    cases h1
    exact lv_ladd hx hb hdec (kk H locs LS hRl hloc hL)
  case lsub =>
    simp only [a_chk, a_ok1, Bool.and_eq_true, beq_iff_eq, decide_eq_true_eq] at hchk
    obtain ⟨rfl, rfl⟩ := hchk
    obtain ⟨x, y, z, st', rfl, h1, rfl⟩ := inv_binL hsem
    cases h1
    exact lv_lsub hx hb hdec (kk H locs LS hRl hloc hL)
  case lmul =>
    simp only [a_chk, a_ok1, Bool.and_eq_true, beq_iff_eq, decide_eq_true_eq] at hchk
    obtain ⟨rfl, rfl⟩ := hchk
    obtain ⟨x, y, z, st', rfl, h1, rfl⟩ := inv_binL hsem
    cases h1
    exact lv_lmul hx hb hdec (kk H locs LS hRl hloc hL)
  case lxor =>
    simp only [a_chk, a_ok1, Bool.and_eq_true, beq_iff_eq, decide_eq_true_eq] at hchk
    obtain ⟨rfl, rfl⟩ := hchk
    obtain ⟨x, y, z, st', rfl, h1, rfl⟩ := inv_binL hsem
    cases h1
    exact lv_lxor hx hb hdec (kk H locs LS hRl hloc hL)
  case lcmp =>
    simp only [a_chk, a_ok1, Bool.and_eq_true, beq_iff_eq, decide_eq_true_eq] at hchk
    obtain ⟨rfl, rfl⟩ := hchk
    obtain ⟨x, y, z, st', rfl, h1, rfl⟩ := inv_binL hsem
    cases h1
    exact W.lcmp hx hb hdec (kk H locs LS hRl hloc hL)
  case ldiv =>
    simp only [a_chk, a_ok1, Bool.and_eq_true, beq_iff_eq, decide_eq_true_eq] at hchk
    obtain ⟨rfl, rfl⟩ := hchk
    obtain ⟨x, y, z, st', rfl, h1, rfl⟩ := inv_binL hsem
    simp only [a_binL] at h1
    split at h1
    · cases h1
    · rename_i h0
      cases h1
      exact lv_ldiv hx hb hdec h0 (kk H locs LS hRl hloc hL)
  case lrem =>
    simp only [a_chk, a_ok1, Bool.and_eq_true, beq_iff_eq, decide_eq_true_eq] at hchk
    obtain ⟨rfl, rfl⟩ := hchk
    obtain ⟨x, y, z, st', rfl, h1, rfl⟩ := inv_binL hsem
    simp only [a_binL] at h1
    split at h1
    · cases h1
    · rename_i h0
      cases h1
      exact lv_lrem hx hb hdec h0 (kk H locs LS hRl hloc hL)
  case ineg =>
    simp only [a_chk, a_ok1, Bool.and_eq_true, beq_iff_eq, decide_eq_true_eq] at hchk
    obtain ⟨rfl, rfl⟩ := hchk
    obtain ⟨v, z, st', rfl, h1, rfl⟩ := inv_un hsem
    cases v <;> simp [a_un] at h1
    subst h1
    exact lv_ineg hx hb hdec (kk H locs LS hRl hloc hL)
  case i2l =>
    simp only [a_chk, a_ok1, Bool.and_eq_true, beq_iff_eq, decide_eq_true_eq] at hchk
    obtain ⟨rfl, rfl⟩ := hchk
    obtain ⟨v, z, st', rfl, h1, rfl⟩ := inv_un hsem
    cases v <;> simp [a_un] at h1
    subst h1
    exact lv_i2l hx hb hdec rfl (kk H locs LS hRl hloc hL)
  case l2i =>
    simp only [a_chk, a_ok1, Bool.and_eq_true, beq_iff_eq, decide_eq_true_eq] at hchk
    obtain ⟨rfl, rfl⟩ := hchk
    obtain ⟨v, z, st', rfl, h1, rfl⟩ := inv_un hsem
    cases v <;> simp [a_un] at h1
    subst h1
    exact lv_l2i hx hb hdec rfl (kk H locs LS hRl hloc hL)
  case i2b =>
    simp only [a_chk, a_ok1, Bool.and_eq_true, beq_iff_eq, decide_eq_true_eq] at hchk
    obtain ⟨rfl, rfl⟩ := hchk
    obtain ⟨v, z, st', rfl, h1, rfl⟩ := inv_un hsem
    cases v <;> simp [a_un] at h1
    subst h1
    exact lv_i2b hx hb hdec rfl (kk H locs LS hRl hloc hL)
  case i2c =>
    simp only [a_chk, a_ok1, Bool.and_eq_true, beq_iff_eq, decide_eq_true_eq] at hchk
    obtain ⟨rfl, rfl⟩ := hchk
    obtain ⟨v, z, st', rfl, h1, rfl⟩ := inv_un hsem
    cases v <;> simp [a_un] at h1
    subst h1
    exact lv_i2c hx hb hdec rfl (kk H locs LS hRl hloc hL)
  case dup =>
    simp only [a_chk, a_ok1, Bool.and_eq_true, beq_iff_eq, decide_eq_true_eq] at hchk
    obtain ⟨rfl, rfl⟩ := hchk
    obtain ⟨v, st', rfl, h1, rfl⟩ := inv_dup hsem
    exact lv_dup hx hb hdec (by rw [g_e_cat]; exact h1) (kk H locs LS hRl hloc hL)
  case pop =>
    simp only [a_chk, a_ok1, Bool.and_eq_true, beq_iff_eq, decide_eq_true_eq] at hchk
    obtain ⟨rfl, rfl⟩ := hchk
    obtain ⟨v, st', rfl, h1, rfl⟩ := inv_pop hsem
    exact lv_pop hx hb hdec (by rw [g_e_cat]; exact h1) (kk H locs LS hRl hloc hL)
  case dup2 =>
    simp only [a_chk, a_ok1, Bool.and_eq_true, beq_iff_eq, decide_eq_true_eq] at hchk
    obtain ⟨rfl, rfl⟩ := hchk
    obtain ⟨v, w, st', rfl, ⟨h1, h2⟩, rfl⟩ := inv_dup2 hsem
    exact lv_dup2_11 hx hb hdec (by rw [g_e_cat]; exact h1) (by rw [g_e_cat]; exact h2) (kk H locs LS hRl hloc hL)
  case getfield x =>
    simp only [a_chk] at hchk
    split at hchk
    · rename_i q hf
      simp only [a_ok1, Bool.and_eq_true, beq_iff_eq, decide_eq_true_eq] at hchk
      obtain ⟨rfl, rfl⟩ := hchk
      cases hcr : c_R q.1 q.2.1 with
      | true =>
        rw [hcr] at hsem
        obtain ⟨a, st', rfl, ⟨h1, h2⟩, rfl⟩ := inv_getR hsem
        refine st_get C K WA hRl hf h1 h2 hdec ?_
        rw [hcr]
        have := kk H locs LS hRl hloc hL
        dsimp only at this
        rw [List.map_cons, g_e_ref] at this
        exact this
      | false =>
        rw [hcr] at hsem
        obtain ⟨a, st', rfl, ⟨h1, h2⟩, rfl⟩ := inv_getI hsem
        refine st_get C K WA hRl hf h1 h2 hdec ?_
        rw [hcr]
        exact kk H locs LS hRl hloc hL
    · cases hchk
  case putfield x =>
    simp only [a_chk] at hchk
    split at hchk
    · rename_i q hf
      simp only [a_ok1, Bool.and_eq_true, beq_iff_eq, decide_eq_true_eq, Bool.or_eq_true, Bool.not_eq_true'] at hchk
      obtain ⟨⟨⟨rfl, rfl⟩, h12⟩, hfin⟩ := hchk
      have h12 : q.1 < 12 := Nat.le_of_ble_eq_true h12
      have hfin : (c_T q.1 q.2.1).2.2.2 = false ∨ ((a_y m).name = "<init>" ∧ q.1 = a_oc m ∧ q.2.2.1 = 0) := by
        rcases hfin with h | ⟨⟨h1, h2⟩, h3⟩
        · exact Or.inl h
        · exact Or.inr ⟨h1, h2, h3⟩
      obtain ⟨-, -, hkN⟩ := WA.1 _ (a_find_mem hf)
      dsimp only at hkN
      obtain ⟨-, hsome, -, hr1, hr2⟩ := (WA.2.2.2.2.2.2.2.2.1 q.1 h12).2.2.1 q.2.1 hkN
      cases hcr : c_R q.1 q.2.1 with
      | true =>
        rw [hcr] at hsem
        obtain ⟨v, a, st', rfl, ⟨h1, h2, h43⟩, rfl⟩ := inv_putR hsem
        obtain ⟨ty, hty, href⟩ := hr1.mp hcr
        have hnar : narrow ty (g_v G v) = g_v G v ∧ fits ty (g_v G v) = true := by
          rcases g_v_or G v with h | ⟨t, h⟩ <;> rw [h] <;> cases ty <;> simp [FieldType.isReference] at href <;> exact ⟨rfl, rfl⟩
        refine st_put C K WA hRl hloc hf h12 hfin h1 h2 h43 hdec hty hnar.1 hnar.2 (hi' := hi) (hr' := hR hr a q.2.1 (some v)) (fun _ _ => rfl) (fun y hy => hR_ne hy) (fun k => ?_) (fun H' locs' hR' hl' => kk H' locs' LS hR' hl' hL)
        unfold g_fv updV
        rw [hR_eq]
        unfold va_up
        by_cases hk : k = q.2.1
        · rw [if_pos hk, if_pos hk, hk, hcr]
          rfl
        · rw [if_neg hk, if_neg hk]
      | false =>
        rw [hcr] at hsem
        have put : ∀ (v : Int32) (a : Nat) (st' : List Value), (∀ ty, parseFieldDescriptor (c_T q.1 q.2.1).2.2.1 = some ty → narrow ty (.int v) = .int v ∧ fits ty (.int v) = true) → a_kd a = q.1 → a < n → 43 ≤ a → S = (ls, st', hI hi a q.2.1 v, hr, n) → W p l e R s mid args below meth c H locs (n - nE) (s_sl G n - s_sl G nE) Q (F0 mid pc LS (.int v :: g_v G a :: st'.map (g_e G))) := by
          rintro v a st' hnf h1 h2 h43 rfl
          obtain ⟨ty, hty⟩ := Option.isSome_iff_exists.mp hsome
          refine st_put C K WA hRl hloc hf h12 hfin h1 h2 h43 hdec hty (hnf ty hty).1 (hnf ty hty).2 (hi' := hI hi a q.2.1 v) (hr' := hr) (fun y hy => hI_ne hy) (fun _ _ => rfl) (fun k => ?_) (fun H' locs' hR' hl' => kk H' locs' LS hR' hl' hL)
          unfold g_fv updV
          rw [hI_eq]
          unfold va_up
          by_cases hk : k = q.2.1
          · rw [if_pos hk, if_pos hk, hk, hcr]
            rfl
          · rw [if_neg hk, if_neg hk]
        simp only [cond_false] at hsem
        split at hsem
        · rename_i hz
          obtain ⟨v, a, st', rfl, ⟨⟨h1, h2, h43⟩, hv⟩, rfl⟩ := inv_putZ hsem
          refine put v a st' (fun ty hty => ?_) h1 h2 h43 rfl
          have hv : v = 0 ∨ v = 1 := by rcases hv with h | h; exact absurd h (by decide); exact h
          rcases hr2 hcr with h | h <;> rw [hty] at h <;> cases h <;> rcases hv with h | h <;> rw [h] <;> exact ⟨rfl, rfl⟩
        · rename_i hz
          obtain ⟨v, a, st', rfl, ⟨⟨h1, h2, h43⟩, hv⟩, rfl⟩ := inv_putI hsem
          refine put v a st' (fun ty hty => ?_) h1 h2 h43 rfl
          rcases hr2 hcr with h | h
          · rw [hty] at h
            cases h
            exact ⟨rfl, rfl⟩
          · exfalso
            exact hz (WA.2.2.2.2.2.2.2.2.2.2.2.2.2.2.2.2.1 q.1 q.2.1 h12 hkN h)
    · cases hchk
  case getstatic x =>
    simp only [a_chk] at hchk
    split at hchk
    · rename_i q hf
      simp only [Bool.and_eq_true, beq_iff_eq, decide_eq_true_eq] at hchk
      obtain ⟨rfl, ho⟩ := hchk
      have hof : o.1 = 20 ∧ S = (ls, .ref o.2.1 :: st, hi, hr, n) ∨ o.1 = 1 ∧ S = (ls, .int (Int32.ofInt o.2.2.2.1) :: st, hi, hr, n) := by
        have hj := (WA.2.1 _ (a_find_mem hf)).2
        dsimp only at hj
        have : ∀ j, j < 7 → ∀ o, a_std[j]?.map (·.2.2.2) = some o → o.1 = 20 ∨ o.1 = 1 := by
          intro j hj o ho
          rcases (show j = 0 ∨ j = 1 ∨ j = 2 ∨ j = 3 ∨ j = 4 ∨ j = 5 ∨ j = 6 by omega) with h | h | h | h | h | h | h <;> subst h <;> cases ho <;> decide
        obtain ⟨t, a1, a2, a3, a4⟩ := o
        rcases this _ hj _ ho with h | h
        · dsimp only at h
          subst h
          exact Or.inl ⟨rfl, (Option.some.inj hsem).symm⟩
        · dsimp only at h
          subst h
          exact Or.inr ⟨rfl, (Option.some.inj hsem).symm⟩
      refine st_gets C K WA hRl hf ho hdec ?_
      rcases hof with ⟨h, rfl⟩ | ⟨h, rfl⟩
      · rw [if_pos h]
        exact kk H locs LS hRl hloc hL
      · rw [if_neg (by omega)]
        exact kk H locs LS hRl hloc hL
    · cases hchk
  case iaload =>
    simp only [a_chk, a_ok1, Bool.and_eq_true, beq_iff_eq, decide_eq_true_eq] at hchk
    obtain ⟨rfl, rfl⟩ := hchk
    obtain ⟨j, a, st', rfl, ⟨⟨h1, h2⟩, h3⟩, rfl⟩ := inv_iald hsem
    exact st_iald C K hRl h1 h2 h3 hdec (kk H locs LS hRl hloc hL)
  case baload =>
    simp only [a_chk, a_ok1, Bool.and_eq_true, beq_iff_eq, decide_eq_true_eq] at hchk
    obtain ⟨rfl, rfl⟩ := hchk
    obtain ⟨j, a, st', rfl, ⟨⟨h1, h2⟩, h3⟩, rfl⟩ := inv_bald hsem
    exact st_bald C K hRl h1 h2 h3 hdec (kk H locs LS hRl hloc hL)
  case aaload =>
    simp only [a_chk, a_ok1, Bool.and_eq_true, beq_iff_eq, decide_eq_true_eq] at hchk
    obtain ⟨rfl, rfl⟩ := hchk
    obtain ⟨j, a, st', rfl, ⟨⟨h1, h2, h4⟩, h3⟩, rfl⟩ := inv_aald hsem
    have := kk H locs LS hRl hloc hL
    dsimp only at this
    rw [List.map_cons, g_e_ref] at this
    exact st_aald C K hRl h1 h2 h4 h3 hdec this
  case iastore =>
    simp only [a_chk, a_ok1, Bool.and_eq_true, beq_iff_eq, decide_eq_true_eq] at hchk
    obtain ⟨rfl, rfl⟩ := hchk
    obtain ⟨v, j, a, st', rfl, ⟨⟨h1, h2, h4⟩, h3⟩, rfl⟩ := inv_iast hsem
    exact st_iast C K hRl hloc h1 h2 h4 h3 hdec (fun H' locs' hR' hl' => kk H' locs' LS hR' hl' hL)
  case bastore =>
    simp only [a_chk, a_ok1, Bool.and_eq_true, beq_iff_eq, decide_eq_true_eq] at hchk
    obtain ⟨rfl, rfl⟩ := hchk
    obtain ⟨v, j, a, st', rfl, ⟨⟨h1, h2, h4⟩, h3⟩, rfl⟩ := inv_bast hsem
    exact st_bast C K hRl hloc h1 h2 h4 h3 hdec (fun H' locs' hR' hl' => kk H' locs' LS hR' hl' hL)
  case aastore =>
    simp only [a_chk, a_ok1, Bool.and_eq_true, beq_iff_eq, decide_eq_true_eq] at hchk
    obtain ⟨rfl, rfl⟩ := hchk
    obtain ⟨v, j, a, st', rfl, ⟨⟨⟨h1, h2⟩, h4, h43⟩, ⟨h5, h6⟩, h3⟩, rfl⟩ := inv_aast hsem
    exact st_aast C K hRl hloc h1 h2 h4 h43 h5 h6 h3 hdec (fun H' locs' hR' hl' => kk H' locs' LS hR' hl' hL)
  case arraylength =>
    simp only [a_chk, a_ok1, Bool.and_eq_true, beq_iff_eq, decide_eq_true_eq] at hchk
    obtain ⟨rfl, rfl⟩ := hchk
    obtain ⟨a, st', rfl, ⟨⟨h1, h2⟩, h3⟩, rfl⟩ := inv_alen hsem
    exact st_alen C K hRl h1 h2 h3 hdec (kk H locs LS hRl hloc hL)
  case new x =>
    simp only [a_chk] at hchk
    split at hchk
    · rename_i q hf
      simp only [a_ok1, Bool.and_eq_true, beq_iff_eq, decide_eq_true_eq] at hchk
      obtain ⟨⟨rfl, rfl⟩, h12⟩ := hchk
      obtain ⟨h1, rfl⟩ := inv_new hsem
      have hs := s_sl_succ G n
      have hmo := s_sl_mono G hnE
      dsimp only at hcells hslots
      refine st_new C K WA hRl hf (Nat.le_of_ble_eq_true h12) h1 (by omega) (by omega) hdec (fun H' hR' => ?_)
      have := kk H' locs LS hR' hloc hL
      dsimp only [List.map_cons] at this
      rw [show n + 1 - nE = n - nE + 1 by omega, show s_sl G (n + 1) - s_sl G nE = s_sl G n - s_sl G nE + s_sz G n by omega] at this
      exact this
    · cases hchk
  case newarray t =>
    have hgo : ∀ k, g_arK k → newarray.typeOf t = g_ty k → len = 2 → o = o_newa k → W p l e R s mid args below meth c H locs (n - nE) (s_sl G n - s_sl G nE) Q (F0 mid pc LS (st.map (g_e G))) := by
      rintro k hk3 hty rfl rfl
      obtain ⟨j, st', rfl, ⟨h1, h2, h3, h4⟩, rfl⟩ := inv_newa hsem
      have hs := s_sl_succ G n
      have hmo := s_sl_mono G hnE
      dsimp only at hcells hslots
      refine st_newa C K hRl hk3 hty h1 h2 h3 h4 (by omega) (by omega) hdec (fun H' hR' => ?_)
      have := kk H' locs LS hR' hloc hL
      dsimp only [List.map_cons] at this
      rw [show n + 1 - nE = n - nE + 1 by omega, show s_sl G (n + 1) - s_sl G nE = s_sl G n - s_sl G nE + s_sz G n by omega] at this
      exact this
    cases t <;> simp only [a_chk, a_ok1, Bool.and_eq_true, beq_iff_eq, decide_eq_true_eq] at hchk
    · exact hgo 22 (Or.inr (Or.inr rfl)) rfl hchk.1 hchk.2
    · cases hchk
    · cases hchk
    · cases hchk
    · exact hgo 21 (Or.inr (Or.inl rfl)) rfl hchk.1 hchk.2
    · cases hchk
    · exact hgo 20 (Or.inl rfl) rfl hchk.1 hchk.2
    · cases hchk
  case anewarray x =>
    simp only [a_chk] at hchk
    split at hchk
    · rename_i q hf
      simp only [a_ok1, Bool.and_eq_true, beq_iff_eq, decide_eq_true_eq, Bool.or_eq_true] at hchk
      obtain ⟨⟨rfl, rfl⟩, hq⟩ := hchk
      obtain ⟨j, st', rfl, ⟨h1, h2, h3, h4⟩, rfl⟩ := inv_anew hsem
      have hs := s_sl_succ G n
      have hmo := s_sl_mono G hnE
      dsimp only at hcells hslots
      refine st_anew C K WA hRl hf (by unfold g_arO; omega) h1 h2 h3 h4 (by omega) (by omega) hdec (fun H' hR' => ?_)
      have := kk H' locs LS hR' hloc hL
      dsimp only [List.map_cons] at this
      rw [show n + 1 - nE = n - nE + 1 by omega, show s_sl G (n + 1) - s_sl G nE = s_sl G n - s_sl G nE + s_sz G n by omega] at this
      exact this
    · cases hchk
  case multianewarray x d =>
    by_cases hd : d = 2
    · subst hd
      simp only [a_chk] at hchk
      split at hchk
      · rename_i q hf
        simp only [a_ok1, Bool.and_eq_true, beq_iff_eq, decide_eq_true_eq] at hchk
        obtain ⟨⟨rfl, rfl⟩, hq⟩ := hchk
        obtain ⟨k, j, st', rfl, ⟨h1, h2, h3, h4, h5, h6, h7⟩, rfl⟩ := inv_mna hsem
        have hs := s_sl_succ G n
        have hsz : s_sz G n = j.toNatClampNeg := by unfold s_sz; rw [if_neg (by omega), h4]
        have hrow := s_sl_rows G (n + 1) j.toNatClampNeg k.toNatClampNeg (fun i hi => by unfold s_sz; rw [if_neg (by rw [(h7 i hi).1]; decide), (h7 i hi).2])
        have hmo := s_sl_mono G hnE
        dsimp only at hcells hslots
        refine st_mna C K WA hRl hloc hf hq h1 h2 h3 h4 h5 h6 h7 (by omega) (by omega) hdec (fun H' locs' hR' hl' => ?_)
        have := kk H' locs' LS hR' hl' hL
        dsimp only [List.map_cons] at this
        rw [show n + 1 + j.toNatClampNeg - nE = n - nE + (1 + j.toNatClampNeg) by omega, show s_sl G (n + 1 + j.toNatClampNeg) - s_sl G nE = s_sl G n - s_sl G nE + (j.toNatClampNeg + j.toNatClampNeg * k.toNatClampNeg) by omega] at this
        exact this
      · cases hchk
    · exfalso
      unfold a_chk at hchk
      split at hchk <;> first | (rename_i h; cases h; done) | (rename_i h; cases h; exact hd rfl) | cases hchk
  case invokespecial x =>
    simp only [a_chk] at hchk
    split at hchk
    · rename_i q hf
      simp only [a_ok1, Bool.and_eq_true, beq_iff_eq, decide_eq_true_eq, Bool.or_eq_true] at hchk
      rcases hchk with ⟨⟨⟨⟨rfl, rfl⟩, hq⟩, h1⟩, h2⟩ | h
      · obtain ⟨a, st', rfl, ⟨h43, h3⟩, rfl⟩ := inv_obj hsem
        exact st_obj C K WA hL.2.1 hf hq (Nat.le_of_ble_eq_true h1) (Nat.le_of_ble_eq_true h2) (by rw [List.length_map]; exact h3) rfl hdec ⟨_, g_v_hi h43⟩ (kk H locs LS hRl hloc hL)
      · obtain ⟨⟨⟨⟨⟨⟨rfl, rfl⟩, -⟩, -⟩, -⟩, -⟩, -⟩ := h
        cases hsem
    · cases hchk
  case invokestatic x =>
    simp only [a_chk] at hchk
    split at hchk
    · rename_i q hf
      simp only [a_ok1, Bool.and_eq_true, beq_iff_eq, decide_eq_true_eq, Bool.or_eq_true] at hchk
      rcases hchk with ⟨⟨⟨⟨rfl, rfl⟩, hq⟩, h1⟩, h2⟩ | h
      · obtain ⟨cn, dp, d, sp, a, st', rfl, ⟨⟨h3, h4, h5, h6, h7, h8⟩, ⟨h9, h10, h11⟩, h12, h13, h14⟩, rfl⟩ := inv_cp hsem
        exact st_cp C K WA hRl hloc hL.2.1 hf hq (Nat.le_of_ble_eq_true h1) (Nat.le_of_ble_eq_true h2) (by rw [List.length_map]; exact h14) h3 h4 h5 h6 h7 h8 h9 h10 h11 h12 h13 hdec (fun H' locs' hR' hl' => kk H' locs' LS hR' hl' hL)
      · obtain ⟨⟨⟨⟨⟨rfl, rfl⟩, -⟩, -⟩, -⟩, -⟩ := h
        cases hsem
    · cases hchk
  case ifCond k off =>
    simp only [a_chk, a_ok1, Bool.and_eq_true, beq_iff_eq, decide_eq_true_eq] at hchk
    rw [hchk.1.2] at hsem
    cases hsem
  case if_icmp k off =>
    simp only [a_chk, a_ok1, Bool.and_eq_true, beq_iff_eq, decide_eq_true_eq] at hchk
    rw [hchk.1.2] at hsem
    cases hsem
  case ifnonnull off =>
    simp only [a_chk, a_ok1, Bool.and_eq_true, beq_iff_eq, decide_eq_true_eq] at hchk
    rw [hchk.1.2] at hsem
    cases hsem
  case goto off =>
    simp only [a_chk, a_ok1, Bool.and_eq_true, beq_iff_eq, decide_eq_true_eq] at hchk
    rw [hchk.1.2] at hsem
    cases hsem
  case if_acmp k off =>
    cases k <;> simp only [a_chk, a_ok1, Bool.and_eq_true, beq_iff_eq, decide_eq_true_eq] at hchk <;> rw [hchk.1.2] at hsem <;> cases hsem
  case tableswitch d lo hi' offs =>
    simp only [a_chk, Bool.and_eq_true, decide_eq_true_eq] at hchk
    rw [hchk.1.1.1.1] at hsem
    cases hsem
  case ireturn =>
    simp only [a_chk, a_ok1, Bool.and_eq_true, beq_iff_eq, decide_eq_true_eq] at hchk
    rw [hchk.2] at hsem
    cases hsem
  case lreturn =>
    simp only [a_chk, a_ok1, Bool.and_eq_true, beq_iff_eq, decide_eq_true_eq] at hchk
    rw [hchk.2] at hsem
    cases hsem
  case areturn =>
    simp only [a_chk, a_ok1, Bool.and_eq_true, beq_iff_eq, decide_eq_true_eq] at hchk
    rw [hchk.2] at hsem
    cases hsem
  case return_ =>
    simp only [a_chk, a_ok1, Bool.and_eq_true, beq_iff_eq, decide_eq_true_eq] at hchk
    rw [hchk.2] at hsem
    cases hsem
  case invokevirtual x =>
    simp only [a_chk] at hchk
    split at hchk
    · simp only [a_ok1, Bool.and_eq_true, beq_iff_eq, decide_eq_true_eq] at hchk
      rw [hchk.1.1.1.1.2] at hsem
      cases hsem
    · cases hchk
  all_goals (change false = true at hchk; cases hchk)
end SH
