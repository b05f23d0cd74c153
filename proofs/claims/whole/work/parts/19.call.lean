/-! A call, over the machine -/
section SC
variable {p : Program} {l : Launch} {e : Env} {R : Room} {s : State} {mid : MethodId} {args : Array Value} {below : List Frame} {meth : Method} {c : Code} {H : Heap} {locs : List Loc} {Q : State → Prop}
variable {G : SG} {m pc : Nat} {hi : AHi} {hr : AHr} {n nE : Nat} {LS : Array Slot} {ls st : List Value}
def mRm (G : SG) (m n : Nat) (r : ARs) : Room := { frames := a_fr m, cells := r.2.2.2 - n, slots := s_sl G r.2.2.2 - s_sl G n, locals := a_lo m }
theorem run_w {r : ARs} {X : Array Value} {rest : List Value} (hrun : va_Run p l e R s mid args below meth c H locs (n - nE) (s_sl G n - s_sl G nE) (r.2.2.2 - n) (s_sl G r.2.2.2 - s_sl G n) (F0 mid pc LS (st.map (g_e G))) (rest.map (g_e G)) (mQc G r X) (fun a => G.1.size ≤ a))
    (hloc : ∀ q ∈ locs, G.1.size ≤ q.base) (hnE : nE ≤ n) (hn : n ≤ r.2.2.2)
    (kk : ∀ (H' : Heap) (locs' : List Loc), Rl G r.2.1 r.2.2.1 r.2.2.2 H' → (∀ q ∈ locs', G.1.size ≤ q.base) → W p l e R s mid args below meth c H' locs' (r.2.2.2 - nE) (s_sl G r.2.2.2 - s_sl G nE) Q (F0 mid (pc + 3) LS ((r.1.toList ++ rest).map (g_e G)))) : W p l e R s mid args below meth c H locs (n - nE) (s_sl G n - s_sl G nE) Q (F0 mid pc LS (st.map (g_e G))) := by
  intro T hT X
  obtain ⟨v, st₀, t, T', L, h0, X', hL', e1, e2, ⟨hq1, hq2⟩, stp⟩ := hrun T hT X
  have hv : v = r.1.map (g_e G) := Outcome.returned.inj hq1
  subst hv
  have m1 := s_sl_mono G hnE
  have m2 := s_sl_mono G hn
  rw [show n - nE + (r.2.2.2 - n) = r.2.2.2 - nE by omega, show s_sl G n - s_sl G nE + (s_sl G r.2.2.2 - s_sl G n) = s_sl G r.2.2.2 - s_sl G nE by omega] at X'
  obtain ⟨t2, a1, b1⟩ := kk t.heap (locs ++ L) hq2 (fun q hq => by
    rcases List.mem_append.mp hq with h | h
    · exact hloc q h
    · exact hL' q h) T' e1 X'
  refine ⟨t2, stp t2 ?_, b1⟩
  have hs : (r.1.map (g_e G)).toList ++ rest.map (g_e G) = (r.1.toList ++ rest).map (g_e G) := by
    cases r.1 <;> simp
  rw [hs]
  exact a1
theorem mPc_blind {as : List Value} : FrameBlind (mPc G as hi hr n) := fun a U g mk q => ⟨q.1, q.2.1, KO.same (s := U) (U := U.calling g mk a) rfl q.2.2⟩
theorem mPc_at {as : List Value} (K : KO G s) (hRl : Rl G hi hr n H) : ∀ U : State, U.heap = H → s.WarmedH U.vm → mPc G as hi hr n (as.map (g_e G)).toArray U := fun U hU hW => ⟨rfl, by rw [hU]; exact hRl, K.warm hW⟩
theorem callB_mk (C : Cx p R s mid meth c m) (K : KO G s) (WA : WAll) {m' x k : Nat} {r : ARs} (hm' : m' < 359) (hroom : a_okR m m' = true) (hk : k = (if a_rc m' = 0 then a_ar m' else a_ar m' - 1)) :
    ((mRm G m' n r).cells = r.2.2.2 - n ∧ (mRm G m' n r).slots = s_sl G r.2.2.2 - s_sl G n ∧ (mRm G m' n r).frames + 1 ≤ R.frames ∧ 8 + (a_ml m' + 11) + (mRm G m' n r).locals ≤ R.locals ∧ (∀ w ∈ mWs m', ∀ (a' : Array Value) (U : State), s.WarmedH U.vm → w.before a' U = true) ∧ Jvm.Cond.code (a_y m') (a_code m') (a_ml m') (a_rt m') ∈ mWs m')
    ∧ (Jvm.Cond.code (a_y m') (a_code m') (a_ml m') (a_rt m')).before args s = true ∧ (Jvm.Cond.initialized (a_y m').cls).before args s = true ∧ ((a_y m').cls ≠ "java/lang/invoke/MethodHandle" ∧ (a_y m').cls ≠ "java/lang/invoke/VarHandle") ∧ (∀ sig, parseMethodDescriptor (a_y m').desc = some sig → k = sig.parameters.length) := by
  obtain ⟨-, -, -, -, -, -, -, hF, hL, hm⟩ := C
  obtain ⟨w1, w2, w3, w4, w5, w6, w7, w8⟩ := WA.2.2.2.2.2.2.1 m' hm'
  unfold a_okR at hroom
  simp only [Bool.and_eq_true] at hroom
  have r1 := Nat.le_of_ble_eq_true hroom.1
  have r2 := Nat.le_of_ble_eq_true hroom.2
  refine ⟨⟨rfl, rfl, by rw [hF]; exact r1, by rw [hL]; exact r2, fun w hw a' U hW => ?_, List.mem_singleton.mpr rfl⟩, K.1.use w1 rfl, K.1.use w3 rfl, ⟨w6, w7⟩, fun sig h => ?_⟩
  · rw [List.mem_singleton.mp hw]
    exact (K.warm hW).1.use w1 rfl
  · rw [h] at w4
    have := Option.some.inj w4
    rw [hk]
    exact this.symm
/-- the receiver's cell -/
theorem rcv_at (K : KO G s) (hRl : Rl G hi hr n H) {a C : Nat} (hk : a_kd a = C) (hC : C < 14) (ha : a < n) : ∃ (t : Nat) (cell : Cell), g_v G a = .ref t ∧ H[t]? = some cell ∧ cell.vm.isStatics = false ∧ s.vm.findClass (c_n C) = some cell.cls := by
  by_cases h43 : 43 ≤ a
  · have hc := hRl.2.2.2 a h43 ha
    unfold g_c at hc
    by_cases h12 : a_kd a < 12
    · rw [if_pos h12, hk] at hc
      obtain ⟨cell, q1, q2, q3, -⟩ := hc
      refine ⟨_, cell, g_v_hi h43, q1, by rw [q3]; rfl, ?_⟩
      rw [q2]
      exact (K.2.1 C (by omega)).2.1
    · rw [if_neg h12, if_pos (by omega)] at hc
      exact hc.elim
  · have h43 : a < 43 := by omega
    obtain ⟨k1, k2, k3, -⟩ := kd_12 a h43
    have go : KObj G s a C → ∃ (t : Nat) (cell : Cell), g_v G a = .ref t ∧ H[t]? = some cell ∧ cell.vm.isStatics = false ∧ s.vm.findClass (c_n C) = some cell.cls := by
      rintro ⟨t, h1, ⟨cell, z1, z2, z3, z4⟩, -⟩
      have hlt : t < G.1.size := (Array.getElem?_eq_some_iff.mp z1).1
      exact ⟨t, cell, g_v_lo h43 h1, by rw [hRl.2.2.1 t hlt]; exact z1, z2, z3⟩
    by_cases h12 : C < 12
    · exact (k1 (by omega)).elim
    · by_cases h1 : C = 12
      · subst h1
        obtain ⟨r1, r2⟩ := k2 hk
        exact go (K.2.2.2.2.2.2.1.1 a r1 r2)
      · have : C = 13 := by omega
        subst this
        obtain ⟨r1, r2⟩ := k3 hk
        exact go (K.2.2.2.2.2.2.1.2 a r1 r2)
theorem rok_inv {rc n : Nat} {as : List Value} (h : a_rokb rc n as = true) (h0 : rc ≠ 0) : ∃ (a : Nat) (r : List Value), as = .ref a :: r ∧ a_kd a = rc - 1 ∧ a < n := by
  unfold a_rokb at h
  split at h
  · exact (h0 rfl).elim
  · simp only [Bool.and_eq_true] at h
    exact ⟨_, _, rfl, Nat.eq_of_beq_eq_true h.1, Nat.le_of_ble_eq_true h.2⟩
  · cases h
/-- stack and arguments -/
theorem stk (G : SG) (st : List Value) (k : Nat) : st.map (g_e G) = ((st.take k).reverse.map (g_e G)).reverse ++ (st.drop k).map (g_e G) := by
  rw [← List.map_reverse, List.reverse_reverse, ← List.map_append, List.take_append_drop]
set_option maxHeartbeats 4000000 in
theorem st_call {f : Nat} (hS : Snd l G f) (WA : WAll) (C : Cx p R s mid meth c m) (K : KO G s) (hRl : Rl G hi hr n H) (hL : lvr G LS (a_ml m) ls) (hloc : ∀ q ∈ locs, G.1.size ≤ q.base) (hnE : nE ≤ n) {i : Instr} {o : AOp} {len : Nat} (hdec : decode (a_code m) pc = .ok (i, len)) (hchk : a_chk m pc len i o = true) (ho : o.1 = 103)
    (h1 : a_ar o.2.1 ≤ st.length) (h2 : (st.drop (a_ar o.2.1)).length ≤ 4) (h3 : a_cok o.2.1 n (st.take (a_ar o.2.1)).reverse = true) {r : ARs} (hE : a_ex (g_E G) f o.2.1 (a_bl o.2.1 0) (a_pad (a_ml o.2.1) (a_args (st.take (a_ar o.2.1)).reverse)) [] hi hr n = some r) (hcells : r.2.2.2 - nE ≤ R.cells) (hslots : s_sl G r.2.2.2 - s_sl G nE ≤ R.slots)
    (kk : ∀ (H' : Heap) (locs' : List Loc), Rl G r.2.1 r.2.2.1 r.2.2.2 H' → (∀ q ∈ locs', G.1.size ≤ q.base) → W p l e R s mid args below meth c H' locs' (r.2.2.2 - nE) (s_sl G r.2.2.2 - s_sl G nE) Q (F0 mid (pc + len) LS ((r.1.toList ++ st.drop (a_ar o.2.1)).map (g_e G)))) : W p l e R s mid args below meth c H locs (n - nE) (s_sl G n - s_sl G nE) Q (F0 mid pc LS (st.map (g_e G))) := by
  have hn := ex_mono _ _ _ _ _ _ _ _ _ hE
  have hoc := WA.2.2.2.2.2.2.2.2.2.1 m C.2.2.2.2.2.2.2.2.2
  have hctl := chk_ctl hchk (by omega)
  unfold a_cok at h3
  simp only [Bool.and_eq_true, List.all_eq_true, Bool.not_eq_true'] at h3
  obtain ⟨⟨hrok, hal⟩, ham⟩ := h3
  have hal := Nat.le_of_ble_eq_true hal
  generalize hm' : o.2.1 = m' at *
  have hlt : ∀ q : Nat × Nat × Nat, o = o_call q.1 → q.1 = m' := by rintro q h; rw [← hm', h]; rfl
  have m1 := s_sl_mono G hnE
  have m2 := s_sl_mono G hn
  have hfit : n - nE + (r.2.2.2 - n) ≤ R.cells ∧ s_sl G n - s_sl G nE + (s_sl G r.2.2.2 - s_sl G n) ≤ R.slots := ⟨by omega, by omega⟩
  have hlen : (st.take (a_ar m')).reverse.length = a_ar m' := by simp; omega
  have hstk := stk G st (a_ar m')
  have hcat := cat_sum (st := (st.drop (a_ar m')).map (g_e G)) (by rw [List.length_map]; exact h2)
  have hsz : (F0 mid pc LS (st.map (g_e G))).locals.size = a_ml m := hL.2.1
  cases i
  case invokevirtual x =>
    simp only [a_chk] at hchk
    split at hchk
    · rename_i q hf
      simp only [a_ok1, Bool.and_eq_true, beq_iff_eq, decide_eq_true_eq, Bool.or_eq_true, Bool.not_eq_true', beq_eq_false_iff_ne] at hchk
      obtain ⟨⟨⟨⟨⟨rfl, ho2⟩, hq360⟩, hroom⟩, hrc⟩, hform⟩ := hchk
      have e := hlt q ho2
      rw [e] at hq360 hroom hrc hform
      have hrc0 : a_rc m' ≠ 0 := by have := Nat.le_of_ble_eq_true hrc; omega
      obtain ⟨a, r0, has, hka, han⟩ := rok_inv hrok hrc0
      have hw := WA.2.2.2.2.2.1 _ (a_find_mem hf)
      dsimp only at hw
      unfold w_call at hw
      rw [hoc, e] at hw
      have hq360 := Nat.le_of_ble_eq_true hq360
      have hr0 : r0.length = a_ar m' - 1 := by rw [has] at hlen; simp at hlen; omega
      have hm9 : m' < 359 := by
        rcases hform with ⟨⟨hfm, hni⟩, hno⟩ | ⟨hfm, h344⟩
        · by_cases h9 : m' = 359
          · exfalso
            subst h9
            exact hrc0 (by decide +kernel)
          · omega
        · omega
      have hM := met_of hS WA hm9 hal ham hE
      have hCB := callB_mk (args := args) (n := n) (x := x) (r := r) C K WA hm9 hroom (k := a_ar m' - 1) (by rw [if_neg hrc0])
      have hsk : st.map (g_e G) = (r0.map (g_e G)).reverse ++ g_v G a :: (st.drop (a_ar m')).map (g_e G) := by
        rw [hstk, has]
        simp [g_e]
      rcases hform with ⟨⟨hfm, hni⟩, hno⟩ | ⟨hfm, h344⟩
      · rw [if_neg (by omega), if_neg (by omega), if_neg (by omega), if_neg (by omega)] at hw
        have hsel := WA.2.2.2.2.2.2.2.1 m' hm9 hrc0 hni hno
        have hC14 : a_rc m' - 1 < 14 := hsel.2.2
        obtain ⟨t, cell, hv, z1, z2, z3⟩ := rcv_at K hRl hka hC14 han
        have hinst := (WA.2.2.2.2.2.2.1 m' hm9).2.1
        rw [if_neg hrc0] at hinst
        rw [hsel.2.1] at z3
        rw [hv] at hsk
        refine run_w (va_runV (As := r0.map (g_e G)) (Ts := []) (C := (a_y m').cls) (n := a_ar m' - 1) ⟨C.1, C.2.1, C.2.2.1, C.2.2.2.1, fun w h => (by cases h)⟩ hM ⟨⟨hCB.1.1, hCB.1.2.1, hCB.1.2.2.1, hCB.1.2.2.2.1, hCB.1.2.2.2.2.1, hCB.1.2.2.2.2.2, hCB.2.1, hCB.2.2.1, hCB.2.2.2.1, hCB.2.2.2.2, K.1.use hw rfl⟩, K.1.use hinst rfl, K.1.use hsel.1 rfl⟩
          ⟨mPc_blind, ⟨cell, z1, z2, z3⟩, ?_⟩ rfl (by rw [List.length_map]; exact hr0) hsz (by exact hsk) (lv_room hcat) hdec hfit) hloc hnE hn kk
        intro U hU hW
        have := mPc_at (as := (st.take (a_ar m')).reverse) K hRl U hU hW
        rw [has] at this ⊢
        rw [List.map_cons, show g_e G (.ref a) = .ref t from hv] at this
        exact this
      · obtain ⟨⟨i1, ws1⟩, ⟨i2, ws2⟩, hy, hrc13, har1, -⟩ := WA.2.2.2.2.2.2.2.2.2.2.2.2.2.2.2.2.2.2.1
        subst h344
        rw [if_neg (by omega), if_neg (by omega), if_pos hfm] at hw
        obtain ⟨t, cell, hv, z1, z2, z3⟩ := rcv_at K hRl hka (by rw [hrc13]; decide) han
        have hinst := (WA.2.2.2.2.2.2.1 344 hm9).2.1
        rw [if_neg hrc0] at hinst
        rw [hv] at hsk
        rw [hrc13] at z3
        have hcd : (Jvm.Cond.code (a_y 344) (a_code 344) (a_ml 344) (a_rt 344)).before args s = true := hCB.2.1
        refine run_w (va_runU (As := r0.map (g_e G)) (Ts := []) (C := "CartoonHouse$Kind") (owner := "java/lang/Enum") (x := ⟨"CartoonHouse$Kind", "ordinal", "()I"⟩) (n := a_ar 344 - 1) ⟨C.1, C.2.1, C.2.2.1, C.2.2.2.1, fun w h => (by cases h)⟩ hM ⟨⟨hCB.1.1, hCB.1.2.1, hCB.1.2.2.1, hCB.1.2.2.2.1, hCB.1.2.2.2.2.1, hCB.1.2.2.2.2.2⟩, hCB.2.1, hCB.2.2.1, ⟨by decide, by decide⟩, ?_, K.1.use hw rfl, K.1.use ws1 rfl, ?_, ?_, K.1.use hinst rfl⟩
          ⟨mPc_blind, ⟨cell, z1, z2, z3⟩, ?_⟩ rfl (by rw [List.length_map]; exact hr0) hsz (by exact hsk) (lv_room hcat) hdec hfit) hloc hnE hn kk
        · intro sig hs
          have := hCB.2.2.2.2 sig
          rw [hy] at this
          exact this hs
        · have hd := va_Decl.of (s := s) (args := args) (K.1.use hinst rfl) hcd
          rw [hy] at hd
          exact hd
        · rw [hy]
          exact K.1.use ws2 rfl
        · intro U hU hW
          have := mPc_at (as := (st.take (a_ar 344)).reverse) K hRl U hU hW
          rw [has] at this ⊢
          rw [List.map_cons, show g_e G (.ref a) = .ref t from hv] at this
          exact this
    · cases hchk
  case invokespecial x =>
    simp only [a_chk] at hchk
    split at hchk
    · rename_i q hf
      simp only [a_ok1, Bool.and_eq_true, beq_iff_eq, decide_eq_true_eq, Bool.or_eq_true] at hchk
      rcases hchk with ⟨⟨⟨⟨-, h9⟩, -⟩, -⟩, -⟩ | hchk
      · rw [h9] at ho
        cases ho
      obtain ⟨⟨⟨⟨⟨⟨rfl, ho2⟩, hq360⟩, hroom⟩, hrc⟩, hni⟩, hfm⟩ := hchk
      have e := hlt q ho2
      rw [e] at hq360 hroom hrc hni
      have hrc0 : a_rc m' ≠ 0 := by have := Nat.le_of_ble_eq_true hrc; omega
      obtain ⟨a, r0, has, hka, han⟩ := rok_inv hrok hrc0
      have hw := WA.2.2.2.2.2.1 _ (a_find_mem hf)
      dsimp only at hw
      unfold w_call at hw
      rw [hoc, e] at hw
      have hq360 := Nat.le_of_ble_eq_true hq360
      have hfm := Nat.le_of_ble_eq_true hfm
      have hr0 : r0.length = a_ar m' - 1 := by rw [has] at hlen; simp at hlen; omega
      have hm9 : m' < 359 := by
        by_cases h9 : m' = 359
        · exfalso
          subst h9
          exact hrc0 (by decide +kernel)
        · omega
      have hM := met_of hS WA hm9 hal ham hE
      have hCB := callB_mk (args := args) (n := n) (x := x) (r := r) C K WA hm9 hroom (k := a_ar m' - 1) (by rw [if_neg hrc0])
      have hsk : st.map (g_e G) = (r0.map (g_e G)).reverse ++ g_v G a :: (st.drop (a_ar m')).map (g_e G) := by
        rw [hstk, has]
        simp [g_e]
      have hret : a_rt m' = none := WA.2.2.2.2.2.2.2.2.2.2.2.2.2.2.2.2.2.2.2 m' hm9 hni
      rw [hret] at hCB
      have href : ∃ t, g_v G a = .ref t := by
        by_cases h43 : 43 ≤ a
        · exact ⟨_, g_v_hi h43⟩
        · exfalso
          have hk12 := (WA.2.2.2.2.2.2.2.2.2.2.2.2.2.2.2.2.2.2.1.2.2.2.2.2) m' hm9 hni
          exact (kd_12 a (by omega)).1 (by omega)
      obtain ⟨t, hv⟩ := href
      have hinst := (WA.2.2.2.2.2.2.1 m' hm9).2.1
      rw [if_neg hrc0] at hinst
      rw [hv] at hsk
      have hpre : ∀ U : State, U.heap = H → s.WarmedH U.vm → mPc G (st.take (a_ar m')).reverse hi hr n (Value.ref t :: r0.map (g_e G)).toArray U := by
        intro U hU hW
        have := mPc_at (as := (st.take (a_ar m')).reverse) K hRl U hU hW
        rw [has] at this ⊢
        rw [List.map_cons, show g_e G (.ref a) = .ref t from hv] at this
        exact this
      rcases (show q.2.1 = 0 ∨ q.2.1 = 1 by omega) with hq0 | hq1
      · rw [if_neg (by omega), if_neg (by omega), if_neg (by omega), if_neg (by omega)] at hw
        exact run_w (va_runI (As := r0.map (g_e G)) (Ts := []) (n := a_ar m' - 1) ⟨C.1, C.2.1, C.2.2.1, C.2.2.2.1, fun w h => (by cases h)⟩ hM ⟨⟨hCB.1.1, hCB.1.2.1, hCB.1.2.2.1, hCB.1.2.2.2.1, hCB.1.2.2.2.2.1, hCB.1.2.2.2.2.2, hCB.2.1, hCB.2.2.1, hCB.2.2.2.1, hCB.2.2.2.2, K.1.use hw rfl⟩, hni, K.1.use hinst rfl⟩
          ⟨mPc_blind, hpre⟩ rfl (by rw [List.length_map]; exact hr0) hsz (by exact hsk) (lv_room hcat) hdec hfit) hloc hnE hn kk
      · rw [if_neg (by omega), if_neg (by omega), if_neg (by omega), if_pos hq1] at hw
        exact run_w (va_runIN (As := r0.map (g_e G)) (Ts := []) (n := a_ar m' - 1) (host := "CartoonHouse") ⟨C.1, C.2.1, C.2.2.1, C.2.2.2.1, fun w h => (by cases h)⟩ hM ⟨⟨⟨hCB.1.1, hCB.1.2.1, hCB.1.2.2.1, hCB.1.2.2.2.1, hCB.1.2.2.2.2.1, hCB.1.2.2.2.2.2⟩, hCB.2.1, hCB.2.2.1, hCB.2.2.2.1, hCB.2.2.2.2, K.1.use hw rfl⟩, hni, K.1.use hinst rfl⟩
          ⟨mPc_blind, hpre⟩ rfl (by rw [List.length_map]; exact hr0) hsz (by exact hsk) (lv_room hcat) hdec hfit) hloc hnE hn kk
    · cases hchk
  case invokestatic x =>
    simp only [a_chk] at hchk
    split at hchk
    · rename_i q hf
      simp only [a_ok1, Bool.and_eq_true, beq_iff_eq, decide_eq_true_eq, Bool.or_eq_true] at hchk
      rcases hchk with ⟨⟨⟨⟨-, h9⟩, -⟩, -⟩, -⟩ | hchk
      · rw [h9] at ho
        cases ho
      obtain ⟨⟨⟨⟨⟨rfl, ho2⟩, hq360⟩, hroom⟩, hrc⟩, hfm⟩ := hchk
      have e := hlt q ho2
      rw [e] at hq360 hroom hrc
      have hw := WA.2.2.2.2.2.1 _ (a_find_mem hf)
      dsimp only at hw
      unfold w_call at hw
      rw [hoc, e] at hw
      have hq360 := Nat.le_of_ble_eq_true hq360
      have hfm := Nat.le_of_ble_eq_true hfm
      have hm9 : m' < 359 := by
        by_cases h9 : m' = 359
        · exfalso
          subst h9
          unfold a_okR at hroom
          simp only [Bool.and_eq_true] at hroom
          have r1 := Nat.le_of_ble_eq_true hroom.1
          have r2 : a_fr 359 = 11 := by decide +kernel
          have r3 : a_fr m ≤ 11 := by
            have hd : ∀ m, m < 360 → a_fr m ≤ 11 := by
              have h : (List.range 360).all (fun m => Nat.ble (a_fr m) 11) = true := by decide +kernel
              intro m hm
              exact Nat.le_of_ble_eq_true (List.all_eq_true.mp h m (List.mem_range.mpr hm))
            exact hd m C.2.2.2.2.2.2.2.2.2
          omega
        · omega
      have hM := met_of hS WA hm9 hal ham hE
      have hCB := callB_mk (args := args) (n := n) (x := x) (r := r) C K WA hm9 hroom (k := a_ar m') (by rw [if_pos hrc])
      have hst := (WA.2.2.2.2.2.2.1 m' hm9).2.1
      rw [if_pos hrc] at hst
      rcases (show q.2.1 = 0 ∨ q.2.1 = 1 by omega) with hq0 | hq1
      · rw [if_neg (by omega), if_neg (by omega), if_neg (by omega), if_neg (by omega)] at hw
        exact run_w (va_runS (As := (st.take (a_ar m')).reverse.map (g_e G)) (Ts := []) (n := a_ar m') ⟨C.1, C.2.1, C.2.2.1, C.2.2.2.1, fun w h => (by cases h)⟩ hM ⟨⟨hCB.1.1, hCB.1.2.1, hCB.1.2.2.1, hCB.1.2.2.2.1, hCB.1.2.2.2.2.1, hCB.1.2.2.2.2.2, hCB.2.1, hCB.2.2.1, hCB.2.2.2.1, hCB.2.2.2.2, K.1.use hw rfl⟩, K.1.use hst rfl⟩
          ⟨mPc_blind, mPc_at K hRl⟩ rfl (by rw [List.length_map]; exact hlen) hsz (by exact hstk) (lv_room hcat) hdec hfit) hloc hnE hn kk
      · rw [if_neg (by omega), if_neg (by omega), if_neg (by omega), if_pos hq1] at hw
        exact run_w (va_runSN (As := (st.take (a_ar m')).reverse.map (g_e G)) (Ts := []) (n := a_ar m') (host := "CartoonHouse") ⟨C.1, C.2.1, C.2.2.1, C.2.2.2.1, fun w h => (by cases h)⟩ hM ⟨⟨⟨hCB.1.1, hCB.1.2.1, hCB.1.2.2.1, hCB.1.2.2.2.1, hCB.1.2.2.2.2.1, hCB.1.2.2.2.2.2⟩, hCB.2.1, hCB.2.2.1, hCB.2.2.2.1, hCB.2.2.2.2, K.1.use hw rfl⟩, K.1.use hst rfl, trivial⟩
          ⟨mPc_blind, mPc_at K hRl⟩ rfl (by rw [List.length_map]; exact hlen) hsz (by exact hstk) (lv_room hcat) hdec hfit) hloc hnE hn kk
    · cases hchk
  all_goals first
    | (change false = true at hctl; cases hctl; done)
    | skip
  all_goals exfalso
  case if_acmp k off =>
    cases k <;> simp only [a_chk, a_ok1, Bool.and_eq_true, beq_iff_eq, decide_eq_true_eq] at hchk <;> rw [hchk.1.2] at ho <;> cases ho
  case tableswitch d lo hi' offs =>
    simp only [a_chk, Bool.and_eq_true, decide_eq_true_eq] at hchk
    rw [hchk.1.1.1.1] at ho
    cases ho
  all_goals
    simp only [a_chk, a_ok1, Bool.and_eq_true, beq_iff_eq, decide_eq_true_eq] at hchk
    first
      | (rw [hchk.1.2] at ho; cases ho; done)
      | (rw [hchk.2] at ho; cases ho; done)
end SC
