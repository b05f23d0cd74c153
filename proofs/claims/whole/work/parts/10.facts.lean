/-! What is known of the tables and of the constants at a state -/
def Wd (U : State) : Prop := ∀ w ∈ lw_tbl, (w.onTables && w.keepsH) = true → w.before #[] U = true
theorem Wd.use {U : State} (h : Wd U) {args : Array Value} {i : Nat} {w : Jvm.Cond} (hw : lw_tbl[i]? = some w) (hk : (w.onTables && w.keepsH) = true) : w.before args U = true := by
  have h1 := h w (List.mem_of_getElem? hw) hk
  simp only [Bool.and_eq_true] at hk
  exact va_tabs hk.1 rfl h1
theorem Wd.warm {s U : State} (hW : s.WarmedH U.vm) (h : Wd s) : Wd U := by
  intro w hw hk
  have h1 := h w hw hk
  simp only [Bool.and_eq_true] at hk
  have h2 := Cond.onTables_warmH (T := U) (args' := #[]) hW hk.1 hk.2 h1
  rwa [State.setVm_self] at h2
theorem Wd.same {s U : State} (hv : s.vm = U.vm) (h : Wd s) : Wd U := by
  intro w hw hk
  have h1 := h w hw hk
  simp only [Bool.and_eq_true] at hk
  exact va_tabs hk.1 hv h1
def g_old (G : SG) : Nat → Prop := fun a => G.1.size ≤ a
/-- a constant array of whole numbers -/
def KArr (G : SG) (U : State) (id : Nat) (ty : FieldType) : Prop := ∃ (t : Nat) (cell : Cell), G.2.1 id = some t ∧ G.1[t]? = some cell ∧ U.isArrayOf cell ty ∧ cell.vm ≠ .unknown ∧ (a_ln (g_E G) id ≤ cell.slots.size ∧ cell.slots.size.toInt32 = Int32.ofNat (a_ln (g_E G) id)) ∧ ∀ j, j < a_ln (g_E G) id → cell.slots[j]? = some (Value.int (rI (g_E G) (fun _ _ => 0) id j))
/-- the array of the kinds -/
def KRow (G : SG) (U : State) : Prop := ∃ (t : Nat) (cell : Cell), G.2.1 3 = some t ∧ G.1[t]? = some cell ∧ U.isArrayOf cell (.object "CartoonHouse$Kind") ∧ cell.vm ≠ .unknown ∧ (8 ≤ cell.slots.size ∧ cell.slots.size.toInt32 = Int32.ofNat 8) ∧ ∀ j, j < 8 → cell.slots[j]? = some (g_v G (4 + j))
/-- a constant object: its class, its fields -/
def KObj (G : SG) (U : State) (id c : Nat) : Prop := ∃ t : Nat, G.2.1 id = some t ∧ va_O (c_n c) t (g_old G) U G.1 ∧ ∀ k, k < c_N c → va_OF (c_T c k).1 (c_T c k).2.1 (c_T c k).2.2.1 (bif c_R c k then g_rf G (a_cR id k) else .int (a_cI id k)) t (g_old G) U G.1
def KSt (G : SG) (U : State) : Prop := ∀ j, j < 7 → ∃ d, a_std[j]? = some d ∧ va_Z d.1 d.2.1 d.2.2.1 (if d.2.2.2.1 = 20 then g_v G d.2.2.2.2.1 else .int (Int32.ofInt d.2.2.2.2.2.2.1)) (g_old G) U G.1
def KO (G : SG) (U : State) : Prop :=
  Wd U
  ∧ (∀ c, c < 12 → u_Kn U (c_n c) (c_T c) (c_N c) (g_dC G c) (g_dI G c))
  ∧ (∀ k, g_arK k → (Jvm.Cond.arrayClass (g_ty k)).before #[] U = true ∧ U.vm.findClass ("[" ++ (g_ty k).toString) = some (g_aC G k) ∧ ArrOfT U (g_aC G k) (g_ty k))
  ∧ (∀ k, g_arO k → va_AO (c_n (k - 30)) U ∧ va_RA U (g_aC G k) (g_ty k) ∧ ArrOfT U (g_aC G k) (g_ty k))
  ∧ ((Jvm.Cond.arrayOver (.array .int)).before #[] U = true ∧ U.vm.findClass ("[" ++ (FieldType.array .int).toString) = some (g_aC G 50) ∧ ArrOfT U (g_aC G 50) (.array .int))
  ∧ (KArr G U 0 .int ∧ KArr G U 1 .int ∧ KArr G U 2 .int ∧ (∀ i, 28 ≤ i → i < 43 → KArr G U i .byte) ∧ KRow G U)
  ∧ ((∀ i, 4 ≤ i → i < 12 → KObj G U i 12) ∧ (∀ i, 12 ≤ i → i < 27 → KObj G U i 13))
  ∧ (∀ i j, 4 ≤ i → i < 12 → 4 ≤ j → j < 12 → G.2.1 i = G.2.1 j → i = j)
  ∧ KSt G U
theorem KArr.moved {G : SG} {u U : State} {id : Nat} {ty : FieldType} (hvm : u.vm.Alike U.vm) (h : KArr G u id ty) : KArr G U id ty := by
  obtain ⟨t, cell, h1, h2, h3, h4⟩ := h
  exact ⟨t, cell, h1, h2, State.isArrayOf_alike hvm h3, h4⟩
theorem KObj.moved {G : SG} {u U : State} {id c : Nat} (hvm : u.vm.Alike U.vm) (h : KObj G u id c) : KObj G U id c := by
  obtain ⟨t, h1, h2, h3⟩ := h
  exact ⟨t, h1, h2.moved hvm, fun k hk => (h3 k hk).moved hvm⟩
theorem KO.moved0 {G : SG} {u U : State} (hvm : u.vm.Alike U.vm) (hw : Wd U) (ha : ∀ k, g_arK k → (Jvm.Cond.arrayClass (g_ty k)).before #[] U = true) (ho : (Jvm.Cond.arrayOver (.array .int)).before #[] U = true) (h : KO G u) : KO G U := by
  obtain ⟨-, h2, h3, h4, h5, ⟨a0, a1, a2, a3, t, cell, b1, b2, b3, b4⟩, ⟨o1, o2⟩, h8, h9⟩ := h
  refine ⟨hw, fun c hc => u_Kn_moved hvm (h2 c hc), fun k hk => ⟨ha k hk, by rw [hvm.findClass]; exact (h3 k hk).2.1, arrOfT_moved hvm (h3 k hk).2.2⟩, fun k hk => ⟨(h4 k hk).1.moved hvm, (h4 k hk).2.1.moved hvm, arrOfT_moved hvm (h4 k hk).2.2⟩,
    ⟨ho, by rw [hvm.findClass]; exact h5.2.1, arrOfT_moved hvm h5.2.2⟩, ⟨a0.moved hvm, a1.moved hvm, a2.moved hvm, fun i h1 h2 => (a3 i h1 h2).moved hvm, t, cell, b1, b2, State.isArrayOf_alike hvm b3, b4⟩, ⟨fun i h1 h2 => (o1 i h1 h2).moved hvm, fun i h1 h2 => (o2 i h1 h2).moved hvm⟩, h8, fun j hj => ?_⟩
  obtain ⟨d, e1, e2⟩ := h9 j hj
  exact ⟨d, e1, e2.moved hvm⟩
theorem aoA_moved {t : FieldType} {u U : State} (hvm : u.vm.Alike U.vm) (h : (Jvm.Cond.arrayOver (.array t)).before #[] u = true) : (Jvm.Cond.arrayOver (.array t)).before #[] U = true := by
  obtain ⟨comp, c, k, h1, h2, h3, h4, h5⟩ := arrayOverA_spec h
  obtain ⟨k', hk', he⟩ := hvm.2.2 _ _ h3
  have hi : (U.vm.classes.findIdx? fun (x : Class) => match x.kind with | .array component _ => component == comp | _ => false) = some c := by
    rw [hvm.findIdx?_eq _ (fun _ => rfl)]
    exact h2
  have hkind : k'.kind = .array comp (.array t) := by rw [he]; exact h4
  have f1 : U.vm.findClass (FieldType.array t).toString = some comp := by rw [hvm.findClass]; exact h1
  have f2 : U.vm.findClass ("[" ++ (FieldType.array t).toString) = some c := by rw [hvm.findClass]; exact h5
  unfold Cond.before Cond.holds
  simp only [Cond.value]
  rw [f1, Option.bind_some]
  refine (congrArg (fun o : Option Nat => (o.bind (fun c => (U.vm.classes[c]?).map fun (k : Class) => match k.kind with | .array _ ty => decide (ty = FieldType.array t) && decide (U.vm.findClass ("[" ++ (FieldType.array t).toString) = some c) | _ => false) == some true)) hi).trans ?_
  simp [hk', hkind, f2]
theorem KO.warm {G : SG} {s U : State} (hW : s.WarmedH U.vm) (h : KO G s) : KO G U :=
  KO.moved0 hW.alike (h.1.warm hW) (fun k hk => word_at hW (Or.inr ⟨_, rfl⟩) (h.2.2.1 k hk).1) (aoA_moved hW.alike h.2.2.2.2.1.1) h
theorem KO.same {G : SG} {s U : State} (hv : s.vm = U.vm) (h : KO G s) : KO G U := by
  have hW : s.WarmedH U.vm := by rw [← hv]; exact State.WarmedH.refl s
  exact h.warm hW
