/-! new int[n][m], over the machine -/
def mg_o (cA : ClassId) (N h i : Nat) : Cell := arrV cA N (fun j => if j < i then .ref (h + 1 + j) else .null)
def mg_i (cI : ClassId) (K : Nat) : Cell := arrV cI K (fun _ => .int 0)
/-- the state with the outer row and its first i rows -/
def mg_s (T : State) (cA cI : ClassId) (N K : Nat) : Nat → State
  | 0 => T.pushCell (mg_o cA N T.heap.size 0)
  | i + 1 => ((mg_s T cA cI N K i).pushCell (mg_i cI K)).setCell T.heap.size (mg_o cA N T.heap.size (i + 1))
theorem mg_o_size (cA : ClassId) (N h i : Nat) : (mg_o cA N h i).slots.size = N := arrV_size _ _ _
theorem mg_i_size (cI : ClassId) (K : Nat) : (mg_i cI K).slots.size = K := arrV_size _ _ _
theorem mg_o_succ (cA : ClassId) (N h i : Nat) : (mg_o cA N h i).setSlot i (.ref (h + 1 + i)) = mg_o cA N h (i + 1) := by
  unfold mg_o
  rw [arrV_store]
  refine congrArg (arrV cA N) (funext fun j => ?_)
  unfold updV
  by_cases e : j = i
  · subst e
    rw [if_pos rfl, if_pos (Nat.lt_succ_self _)]
  · rw [if_neg e]
    show (if j < i then Value.ref (h + 1 + j) else Value.null) = _
    by_cases h : j < i
    · rw [if_pos h, if_pos (Nat.lt_succ_of_lt h)]
    · rw [if_neg h, if_neg (by omega)]
theorem mg_size (T : State) (cA cI : ClassId) (N K i : Nat) : (mg_s T cA cI N K i).heap.size = T.heap.size + 1 + i := by
  induction i with
  | zero => simp [mg_s]
  | succ i ih =>
    rw [mg_s, size_setCell, size_pushCell, ih]
    omega
theorem mg_vm (T : State) (cA cI : ClassId) (N K i : Nat) : (mg_s T cA cI N K i).vm = T.vm := by
  induction i with
  | zero => rfl
  | succ i ih => exact ih
theorem mg_slots (T : State) (cA cI : ClassId) (N K i : Nat) : (mg_s T cA cI N K i).slotsUsed = T.slotsUsed + N + i * K := by
  induction i with
  | zero => simp [mg_s, mg_o_size]
  | succ i ih =>
    simp [mg_s, ih, mg_i_size, Nat.succ_mul]
    omega
theorem mg_top (T : State) (g : JFrame) (cA cI : ClassId) (N K i : Nat) : mg_s (T.setTop g) cA cI N K i = (mg_s T cA cI N K i).setTop g := by
  induction i with
  | zero => rfl
  | succ i ih => simp only [mg_s, ih, State.heap_setTop, State.pushCell_setTop, State.setCell_setTop]
theorem mg_cells (T : State) (cA cI : ClassId) (N K i : Nat) : (mg_s T cA cI N K i).heap[T.heap.size]? = some (mg_o cA N T.heap.size i) ∧ (∀ a, a < T.heap.size → (mg_s T cA cI N K i).heap[a]? = T.heap[a]?) ∧ ∀ j, j < i → (mg_s T cA cI N K i).heap[T.heap.size + 1 + j]? = some (mg_i cI K) := by
  induction i with
  | zero => exact ⟨State.heap_pushCell_size _ _, fun a ha => State.heap_pushCell_of_lt _ _ ha, fun j hj => absurd hj (Nat.not_lt_zero _)⟩
  | succ i ih =>
    obtain ⟨h1, h2, h3⟩ := ih
    have hs := mg_size T cA cI N K i
    have hlt : T.heap.size < (mg_s T cA cI N K i).heap.size := by omega
    have hat : ((mg_s T cA cI N K i).pushCell (mg_i cI K)).heap[T.heap.size]? = some (mg_o cA N T.heap.size i) := by rw [State.heap_pushCell_of_lt (h := hlt)]; exact h1
    refine ⟨State.heap_setCell_self hat, fun a ha => ?_, fun j hj => ?_⟩
    · have ha2 : a < (mg_s T cA cI N K i).heap.size := by omega
      rw [mg_s, State.heap_setCell_other (Nat.ne_of_gt ha), State.heap_pushCell_of_lt (h := ha2)]
      exact h2 a ha
    · rw [mg_s, State.heap_setCell_other (show T.heap.size ≠ T.heap.size + 1 + j by omega)]
      by_cases e : j < i
      · have ha2 : T.heap.size + 1 + j < (mg_s T cA cI N K i).heap.size := by omega
        rw [State.heap_pushCell_of_lt (h := ha2)]
        exact h3 j e
      · have e2 : T.heap.size + 1 + j = (mg_s T cA cI N K i).heap.size := by omega
        rw [e2]
        exact State.heap_pushCell_size _ _
section MG
variable {E : CtlPost} {e : Env} {d : Bool} {acts : List Action} {s : State}
theorem mg_new {c comp : ClassId} {k : Class} {type : FieldType} {len : Nat} {init : Value} (hk : s.vm.classes[c]? = some k) (hkind : k.kind = .array comp type) (hlimit : ¬ len > e.platform.arrayLengthLimit) (hheap : ¬ len * componentBytes type > e.platform.maxHeapBytes) (hfit : fits type init = true) (hdef : init.isDefault = true) {Q : Addr → Pre}
    (h1 : s.heap.size < e.platform.maxCells) (h2 : s.slotsUsed + len ≤ e.platform.maxSlots) (hq : Q s.heap.size d acts (s.pushCell (arrV c len (fun _ => init)))) : wp (Jvm.newArray c len init) Q E e d acts s := by
  rw [← arrV_new] at hq
  have hfits : ∀ i v, (Array.replicate len init)[i]? = some v → s.fitsSlot c .none i v = true := by
    intro i v hv
    rw [Array.getElem?_replicate] at hv
    split at hv
    · cases hv
      simp [State.fitsSlot, State.slotType?, hk, hkind, hfit]
    · cases hv
  have hda : allocActs (Array.replicate len init) s.heap.size acts = acts := by
    unfold allocActs
    rw [if_pos (by rw [Array.all_replicate]; split <;> simp [hdef])]
  simp only [Jvm.newArray, Jvm.arrayFits, wp_bind', W.ask, W.ite, hlimit, if_false, wp_pure', W.theClass, hk, hkind, hheap, W.alloc, W.stop, Option.some.injEq, exists_eq_left', Array.size_replicate, hda]
  rw [if_neg (by omega)]
  exact ⟨h1, h2, hfits, hq⟩
theorem mg_make {cA cI cc : ClassId} {kA kI : Class} {n k : Int32} (hkA : s.vm.classes[cA]? = some kA) (hkindA : kA.kind = .array cI (.array .int)) (hkI : s.vm.classes[cI]? = some kI) (hkindI : kI.kind = .array cc .int) (hn : ¬ n < 0) (hk : ¬ k < 0)
    (hl1 : ¬ n.toNatClampNeg > e.platform.arrayLengthLimit) (hh1 : ¬ n.toNatClampNeg * componentBytes (.array .int) > e.platform.maxHeapBytes) (hl2 : ¬ k.toNatClampNeg > e.platform.arrayLengthLimit) (hh2 : ¬ k.toNatClampNeg * componentBytes .int > e.platform.maxHeapBytes)
    (hc : s.heap.size + 1 + n.toNatClampNeg ≤ e.platform.maxCells) (hs : s.slotsUsed + n.toNatClampNeg + n.toNatClampNeg * k.toNatClampNeg ≤ e.platform.maxSlots)
    {Q : Addr → Pre} (hq : ∀ d' acts', Q s.heap.size d' acts' (mg_s s cA cI n.toNatClampNeg k.toNatClampNeg n.toNatClampNeg)) : wp (multianewarray.make cA [n, k]) Q E e d acts s := by
  generalize hN : n.toNatClampNeg = N at *
  generalize hK : k.toNatClampNeg = K at *
  have hfind : ([k].find? (· < 0)) = none := by simp [hk]
  rw [multianewarray.make]
  simp only [wp_bind', W.ite, hn, if_false, wp_pure', W.theClass, hkA, hkindA, Option.some.injEq, exists_eq_left', hN]
  refine mg_new hkA hkindA hl1 hh1 rfl rfl (by omega) (by have := Nat.zero_le (N * K); omega) ?_
  simp only [hfind]
  rw [ite_self, wp_bind', Std.Legacy.Range.forIn_eq_forIn_range']
  have hsz : ([:N] : Std.Legacy.Range).size = N := by simp [Std.Legacy.Range.size]
  rw [hsz]
  show wp (forIn (List.range' 0 N 1) PUnit.unit _) _ E e d acts _
  refine wp_forIn_inv (fun rest s' => ∃ i, i ≤ N ∧ rest = List.range' i (N - i) ∧ s' = mg_s s cA cI N K i) _ _ ⟨0, Nat.zero_le _, rfl, ?_⟩ ?_ ?_
  · show s.pushCell _ = s.pushCell _
    unfold mg_o
    simp
  · rintro x rest s' d' acts' Q' ⟨i, hi, hl, rfl⟩ hnext
    have hlt : i < N := by
      by_cases h : i < N
      · exact h
      · rw [show N - i = 0 by omega] at hl
        simp at hl
    rw [show N - i = (N - (i + 1)) + 1 by omega, List.range'_succ] at hl
    obtain ⟨hxi, hrest⟩ := List.cons.inj hl
    subst hxi
    have f1 := mg_size s cA cI N K x
    have f3 := mg_vm s cA cI N K x
    have f4 := mg_slots s cA cI N K x
    obtain ⟨f2, -, -⟩ := mg_cells s cA cI N K x
    have hmul : x * K + K ≤ N * K := by
      have := Nat.mul_le_mul_right K (show x + 1 ≤ N from hlt)
      rw [Nat.succ_mul] at this
      exact this
    simp only [wp_bind']
    rw [multianewarray.make]
    simp only [wp_bind', W.ite, hk, if_false, wp_pure', W.theClass, f3, hkI, hkindI, Option.some.injEq, exists_eq_left', hK]
    refine mg_new (by rw [f3]; exact hkI) hkindI hl2 hh2 rfl rfl (by rw [f1]; omega) (by rw [f4]; omega) ?_
    have hlt0 : s.heap.size < (mg_s s cA cI N K x).heap.size := by omega
    simp only [wp_bind', W.writeLoc, wp_pure']
    refine ⟨mg_o cA N s.heap.size x, by rw [State.heap_pushCell_of_lt (h := hlt0)]; exact f2, by unfold mg_o arrV; simp, by rw [mg_o_size]; exact hlt, ?_, hnext _ _ _ ⟨x + 1, hlt, hrest, ?_⟩⟩
    · have hcls : (mg_o cA N s.heap.size x).cls = cA := rfl
      have hvm : (mg_o cA N s.heap.size x).vm = .none := rfl
      rw [hcls, hvm]
      simp [State.fitsSlot, State.slotType?, f3, hkA, hkindA, fits]
    · rw [f1, mg_o_succ]
      rfl
  · rintro s' d' acts' ⟨i, hi, hl, rfl⟩
    have hiN : i = N := by
      by_cases h : i < N
      · rw [show N - i = (N - (i + 1)) + 1 by omega, List.range'_succ] at hl
        cases hl
      · omega
    subst hiN
    simp only [wp_pure']
    exact hq _ _
end MG
section SH
variable {p : Program} {l : Launch} {e : Env} {R : Room} {s : State} {mid : MethodId} {args : Array Value} {below : List Frame} {meth : Method} {c : Code} {H : Heap} {locs : List Loc} {cells slots : Nat} {Q : State → Prop}
variable {G : SG} {m pc : Nat} {hi : AHi} {hr : AHr} {n : Nat} {LS : Array Slot} {rest : List Value}
theorem mg_stand {T : State} (X : Stand p l e R s mid args below meth c T locs cells slots) (cA cI : ClassId) (N K i : Nat) : Stand p l e R s mid args below meth c (mg_s T cA cI N K i) (locs ++ (List.range i).map fun j => (⟨T.heap.size, j⟩ : Loc)) (cells + (1 + i)) (slots + (N + i * K)) := by
  induction i with
  | zero =>
    have h := X.pushed (mg_o cA N T.heap.size 0)
    rw [mg_o_size] at h
    simpa [mg_s] using h
  | succ i ih =>
    obtain ⟨f2, -, -⟩ := mg_cells T cA cI N K i
    have f1 := mg_size T cA cI N K i
    have ha2 : T.heap.size < (mg_s T cA cI N K i).heap.size := by omega
    have hcell : ((mg_s T cA cI N K i).pushCell (mg_i cI K)).heap[T.heap.size]? = some (mg_o cA N T.heap.size i) := by rw [State.heap_pushCell_of_lt (h := ha2)]; exact f2
    have h := (ih.pushed (mg_i cI K)).stored hcell i (.ref (T.heap.size + 1 + i))
    rw [mg_i_size, mg_o_succ] at h
    rw [List.range_succ, List.map_append, ← List.append_assoc, show cells + (1 + (i + 1)) = cells + (1 + i) + 1 by omega, show slots + (N + (i + 1) * K) = slots + (N + i * K) + K by rw [Nat.succ_mul]; omega]
    exact h
theorem st_mna (C : Cx p R s mid meth c m) (K : KO G s) (WA : WAll) (hRl : Rl G hi hr n H) (hloc : ∀ q ∈ locs, G.1.size ≤ q.base) {x : Nat} {q : Nat × Nat} (hf : a_find a_nls (a_oc m) x = some q) (hq : q.1 = 50) {j k : Int32} (hk : a_kd n = 50) (hj : ¬ j < 0) (hk0 : ¬ k < 0) (hln : a_ln (g_E G) n = j.toNatClampNeg) (hbj : j.toNatClampNeg ≤ 60000) (hbk : k.toNatClampNeg ≤ 60000) (hin : ∀ i, i < j.toNatClampNeg → a_kd (n + 1 + i) = 20 ∧ a_ln (g_E G) (n + 1 + i) = k.toNatClampNeg)
    (hcells : cells + (1 + j.toNatClampNeg) ≤ R.cells) (hslots : slots + (j.toNatClampNeg + j.toNatClampNeg * k.toNatClampNeg) ≤ R.slots) (hdg : decode (a_code m) pc = .ok (.multianewarray x 2, 4))
    (kk : ∀ (H' : Heap) (locs' : List Loc), Rl G (a_zero hi n j.toNatClampNeg) (a_rows hr n j.toNatClampNeg) (n + 1 + j.toNatClampNeg) H' → (∀ q ∈ locs', G.1.size ≤ q.base) → W p l e R s mid args below meth c H' locs' (cells + (1 + j.toNatClampNeg)) (slots + (j.toNatClampNeg + j.toNatClampNeg * k.toNatClampNeg)) Q (F0 mid (pc + 4) LS (g_v G n :: rest))) : W p l e R s mid args below meth c H locs cells slots Q (F0 mid pc LS (.int k :: .int j :: rest)) := by
  obtain ⟨hx, hb, -, hown, -, -, -, -, -, hm⟩ := C
  obtain ⟨qc, pos⟩ := q
  have hw := WA.2.2.2.2.1 _ (a_find_mem hf)
  dsimp only at hw hq
  subst hq
  have hoc := WA.2.2.2.2.2.2.2.2.2.1 m hm
  rw [hoc, if_pos rfl] at hw
  have hclink : (Jvm.Cond.classLink (a_y m).cls x "[[I").before args s = true := K.1.use hw rfl
  obtain ⟨ho1, ho2, ho3⟩ := K.2.2.2.2.1
  obtain ⟨w1, w2, w3⟩ := K.2.2.1 20 (Or.inl rfl)
  obtain ⟨comp, cA, kA, hcomp, -, hkA, hkindA, hnameA⟩ := arrayOverA_spec ho1
  cases ho2.symm.trans hnameA
  have hcomp2 : s.vm.findClass ("[" ++ (FieldType.int).toString) = some comp := hcomp
  cases w2.symm.trans hcomp2
  obtain ⟨cI', kI, cc, hI1, hkI, hkindI⟩ := Cond.arrayClass_spec w1
  cases w2.symm.trans hI1
  intro T hT X
  have hpl : e.platform.magicAccessors = ({} : Platform).magicAccessors := by rw [X.admits.platform]
  obtain ⟨c0, hfc0, hcl⟩ := Cond.classLink_spec hown hclink e.platform hpl
  cases hnameA.symm.trans hfc0
  obtain ⟨hg₁, hwarm₁, hready₁⟩ := State.classEntry (e := e) X.warmed hcl
  generalize T.vm.noted mid.cls x (.cls (g_aC G 50)) = vm₁ at hg₁ hwarm₁ hready₁
  have hal : s.vm.Alike vm₁ := hwarm₁.alike
  obtain ⟨kA₁, hkA₁, heA⟩ := hal.2.2 _ _ hkA
  obtain ⟨kI₁, hkI₁, heI⟩ := hal.2.2 _ _ hkI
  have X₁ := X.noted hwarm₁
  have hH : H.size = g_ad G n := Rl_adn hRl
  have hTs : (T.setVm vm₁).heap = H := hT
  have XF := mg_stand X₁ (g_aC G 50) (g_aC G 20) j.toNatClampNeg k.toNatClampNeg j.toNatClampNeg
  have hsz := mg_size (T.setVm vm₁) (g_aC G 50) (g_aC G 20) j.toNatClampNeg k.toNatClampNeg j.toNatClampNeg
  obtain ⟨c1, c2, c3⟩ := mg_cells (T.setVm vm₁) (g_aC G 50) (g_aC G 20) j.toNatClampNeg k.toNatClampNeg j.toNatClampNeg
  rw [hTs] at hsz c1 c2 c3
  have h43 := hRl.1
  have hF : Rl G (a_zero hi n j.toNatClampNeg) (a_rows hr n j.toNatClampNeg) (n + 1 + j.toNatClampNeg) (mg_s (T.setVm vm₁) (g_aC G 50) (g_aC G 20) j.toNatClampNeg k.toNatClampNeg j.toNatClampNeg).heap := by
    have hHs := hRl.2.1
    refine ⟨by omega, by rw [hsz, hHs]; omega, fun a ha => by rw [c2 a (by omega)]; exact hRl.2.2.1 a ha, fun id h1 h2 => ?_⟩
    by_cases hid : id < n
    · refine g_c_kept (hRl.2.2.2 id h1 hid) ?_ ?_ (c2 _ (by unfold g_ad; omega))
      · unfold a_zero
        rw [if_neg (by omega)]
      · unfold a_rows
        rw [if_neg (by omega), if_neg (by omega)]
    · by_cases hn : id = n
      · subst hn
        unfold g_c
        rw [hk, if_neg (by decide), if_neg (by decide), if_neg (by decide)]
        refine ⟨Or.inr rfl, ?_⟩
        rw [← hH, c1, hln]
        unfold mg_o
        refine congrArg (fun f => some (arrV (g_aC G 50) j.toNatClampNeg f)) (funext fun i => ?_)
        unfold a_rows
        rw [if_pos rfl]
        by_cases hi9 : i < j.toNatClampNeg
        · rw [if_pos hi9, if_pos hi9]
          show _ = g_v G (id + 1 + i)
          rw [g_v_hi (by omega)]
          unfold g_ad
          rw [show H.size + 1 + i = G.1.size + (id + 1 + i - 43) by omega]
        · rw [if_neg hi9, if_neg hi9]
          rfl
      · obtain ⟨i, rfl⟩ : ∃ i, id = n + 1 + i := ⟨id - n - 1, by omega⟩
        have hi9 : i < j.toNatClampNeg := by omega
        obtain ⟨d1, d2⟩ := hin i hi9
        unfold g_c
        rw [d1, if_neg (by decide), if_neg (by decide), if_pos (by decide), d2]
        have hz : a_zero hi n j.toNatClampNeg (n + 1 + i) = fun _ => 0 := by
          unfold a_zero
          rw [if_pos (by omega)]
        rw [hz]
        refine ⟨?_, fun _ => rfl⟩
        have he : g_ad G (n + 1 + i) = H.size + 1 + i := by unfold g_ad; omega
        rw [he]
        exact c3 i hi9
  have hlocs : ∀ q ∈ locs ++ (List.range j.toNatClampNeg).map fun i => (⟨(T.setVm vm₁).heap.size, i⟩ : Loc), G.1.size ≤ q.base := by
    intro q hq
    rcases List.mem_append.mp hq with h | h
    · exact hloc q h
    · obtain ⟨i, -, rfl⟩ := List.mem_map.mp h
      show G.1.size ≤ (T.setVm vm₁).heap.size
      rw [hTs, hRl.2.1]
      omega
  obtain ⟨t, a1, b1⟩ := kk _ _ hF hlocs _ rfl XF
  refine ⟨t, ?_, b1⟩
  obtain ⟨hr1, hr2⟩ := X.roomAbove hcells hslots
  have hl1 : ¬ j.toNatClampNeg > e.platform.arrayLengthLimit := by rw [Launch.admits_arrayLengthLimit X.admits]; omega
  have hh1 : ¬ j.toNatClampNeg * componentBytes (.array .int) > e.platform.maxHeapBytes := by
    rw [Launch.admits_maxHeapBytes X.admits]
    show ¬ j.toNatClampNeg * 4 > 536870912
    omega
  have hl2 : ¬ k.toNatClampNeg > e.platform.arrayLengthLimit := by rw [Launch.admits_arrayLengthLimit X.admits]; omega
  have hh2 : ¬ k.toNatClampNeg * componentBytes .int > e.platform.maxHeapBytes := by
    rw [Launch.admits_maxHeapBytes X.admits]
    show ¬ k.toNatClampNeg * 4 > 536870912
    omega
  jvm_step X.here [hx, hb, hdg]
  simp only [multianewarray.sem, wp_bind', W.resolveClassAt_links (State.method?_setTop (F0 mid pc LS (.int k :: .int j :: rest)) X.here.top) hg₁]
  rw [W.popN, if_neg (by decide)]
  refine ⟨F0 mid pc LS (.int k :: .int j :: rest), State.topJava?_setTop' (s := T.setVm vm₁) _ X.here.top, [.int j, .int k], rest, rfl, rfl, ?_⟩
  simp only [List.mapM_cons, List.mapM_nil, wp_bind', wp_pure']
  refine mg_make (kA := kA₁) (kI := kI₁) (cc := cc) hkA₁ (by rw [heA]; exact hkindA) hkI₁ (by rw [heI]; exact hkindI) hj hk0 hl1 hh1 hl2 hh2 (by show T.heap.size + 1 + _ ≤ _; omega) (by show T.slotsUsed + _ + _ ≤ _; omega) (fun d' acts' => ?_)
  have eS : ((T.setTop (F0 mid pc LS (.int k :: .int j :: rest))).setVm vm₁).setTop { F0 mid pc LS (.int k :: .int j :: rest) with stack := rest } = (T.setVm vm₁).setTop { F0 mid pc LS (.int k :: .int j :: rest) with stack := rest } := by
    show ((T.setVm vm₁).setTop _).setTop _ = _
    rw [State.setTop_setTop]
  rw [eS, mg_top]
  simp only [wp_bind', W.mark, W.pushRef, State.topJava?_setTop' _ XF.here.top, Option.some.injEq, exists_eq_left', State.setTop_setTop, State.heap_setTop]
  intro acts
  simp [jvm, XF.here.top]
  rw [g_v_hi h43, ← hH] at a1
  rw [hT]
  exact a1
end SH
