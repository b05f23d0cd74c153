/-! The links are among the tables' words, by their places -/
theorem a_find_mem {α : Type} {l : List (Nat × Nat × α)} {own idx : Nat} {x : α} (h : a_find l own idx = some x) : (own, idx, x) ∈ l := by
  unfold a_find at h
  obtain ⟨e, he, rfl⟩ := Option.map_eq_some_iff.mp h
  have h1 := List.find?_some he
  have h2 := List.mem_of_find?_eq_some he
  simp only [Bool.and_eq_true, beq_iff_eq] at h1
  obtain ⟨rfl, rfl⟩ := h1
  exact h2
def w_fld (own idx C k nest : Nat) : Jvm.Cond := if nest = 1 then .fieldLinkNest (c_n own) idx (c_T C k).1 (c_T C k).2.1 (c_T C k).2.2.1 "CartoonHouse" else .fieldLink (c_n own) idx (c_T C k).1 (c_T C k).2.1 (c_T C k).2.2.1
def w_st (own idx j nest : Nat) : Jvm.Cond := match a_std[j]? with
  | some d => if nest = 1 then .fieldLinkNest (c_n own) idx d.1 d.2.1 d.2.2.1 "CartoonHouse" else .fieldLink (c_n own) idx d.1 d.2.1 d.2.2.1
  | none => .tt
def w_call (own idx m form : Nat) : Jvm.Cond :=
  if m = 1000 then .methodLink (c_n own) idx Lib.objectInit
  else if m = 1001 then .methodLink (c_n own) idx arraycopyName
  else if form = 2 then .methodLink (c_n own) idx ⟨"CartoonHouse$Kind", "ordinal", "()I"⟩
  else if form = 1 then .methodLinkNest (c_n own) idx (a_y m) "CartoonHouse" else .methodLink (c_n own) idx (a_y m)
/-- what is to be known of the words: by program, in the parts behind -/
def WFls : Prop := ∀ e ∈ a_fls, lw_tbl[e.2.2.2.2.2]? = some (w_fld e.1 e.2.1 e.2.2.1 e.2.2.2.1 e.2.2.2.2.1) ∧ e.2.2.1 < 14 ∧ e.2.2.2.1 < c_N e.2.2.1
def WSts : Prop := ∀ e ∈ a_sts, lw_tbl[e.2.2.2.2]? = some (w_st e.1 e.2.1 e.2.2.1 e.2.2.2.1) ∧ e.2.2.1 < 7
def WKns : Prop := ∀ e ∈ a_kns, lw_tbl[e.2.2.2]? = some (Jvm.Cond.constant (c_n e.1) e.2.1 e.2.2.1)
def WKls : Prop := ∀ e ∈ a_kls, lw_tbl[e.2.2.2]? = some (Jvm.Cond.constantLong (c_n e.1) e.2.1 e.2.2.1)
def WNls : Prop := ∀ e ∈ a_nls, lw_tbl[e.2.2.2]? = some (Jvm.Cond.classLink (c_n e.1) e.2.1 (if e.2.2.1 = 50 then "[[I" else c_n e.2.2.1))
def WCls : Prop := ∀ e ∈ a_cls, lw_tbl[e.2.2.2.2]? = some (w_call e.1 e.2.1 e.2.2.1 e.2.2.2.1)
/-- the words of a method that is called, and its name -/
def WMth (m : Nat) : Prop :=
  lw_tbl[a_ps m]? = some (.code (a_y m) (a_code m) (a_ml m) (a_rt m))
  ∧ lw_tbl[a_pis.getD m 0]? = some (if a_rc m = 0 then Jvm.Cond.static (a_y m) else .instanceMethod (a_y m))
  ∧ lw_tbl[a_ini.getD (a_oc m) 0]? = some (.initialized (a_y m).cls)
  ∧ (parseMethodDescriptor (a_y m).desc).map (fun d => d.parameters.length) = some (if a_rc m = 0 then a_ar m else a_ar m - 1)
  ∧ plainFor (a_y m) = true ∧ (a_y m).cls ≠ "java/lang/invoke/MethodHandle" ∧ (a_y m).cls ≠ "java/lang/invoke/VarHandle" ∧ (a_rc m ≠ 0 → 0 < a_ar m)
/-- of one that is called by its object's class -/
def WSel (m : Nat) : Prop := lw_tbl[a_pss.getD m 0]? = some (.selects (a_y m).cls (a_y m) (a_y m)) ∧ c_n (a_rc m - 1) = (a_y m).cls ∧ a_rc m - 1 < 14
/-- of the classes -/
def WCl (c : Nat) : Prop := lw_tbl[a_ins.getD c 0]? = some (.instantiable (c_n c) (c_N c)) ∧ lw_tbl[a_ini.getD c 0]? = some (.initialized (c_n c))
  ∧ (∀ k, k < c_N c → lw_tbl[(a_lys.getD c []).getD k 0]? = some (u_lay (c_n c) (c_T c) k) ∧ (parseFieldDescriptor (c_T c k).2.2.1).isSome = true ∧ (c_T c k).1 = c_n c ∧ (c_R c k = true ↔ ∃ ty, parseFieldDescriptor (c_T c k).2.2.1 = some ty ∧ ty.isReference = true) ∧ (c_R c k = false → parseFieldDescriptor (c_T c k).2.2.1 = some .int ∨ parseFieldDescriptor (c_T c k).2.2.1 = some .boolean))
  ∧ ∀ a, a < c_N c → ∀ b, b < c_N c → a ≠ b → (c_T c a).2.1 ≠ (c_T c b).2.1
/-- all of it -/
def WAll : Prop := WFls ∧ WSts ∧ WKns ∧ WKls ∧ WNls ∧ WCls ∧ (∀ m, m < 359 → WMth m) ∧ (∀ m, m < 359 → a_rc m ≠ 0 → (a_y m).name ≠ "<init>" → (a_y m).name ≠ "ordinal" → WSel m) ∧ (∀ c, c < 12 → WCl c)
  ∧ (∀ m, m < 360 → c_n (a_oc m) = (a_y m).cls)
  ∧ (∀ m L, m < 360 → a_mat m (a_pc m L) (a_bl m L) = true)
  ∧ (∃ i : Nat, lw_tbl[i]? = some (Jvm.Cond.native arraycopyName)) ∧ (∃ i : Nat, lw_tbl[i]? = some (Jvm.Cond.static arraycopyName)) ∧ (∃ i : Nat, lw_tbl[i]? = some (Jvm.Cond.initialized "java/lang/System")) ∧ (∃ i : Nat, lw_tbl[i]? = some (Jvm.Cond.instanceMethod Lib.objectInit)) ∧ (∃ i : Nat, lw_tbl[i]? = some (Jvm.Cond.code Lib.objectInit ⟨#[0xb1]⟩ 1 none))
  ∧ (∀ c k, c < 12 → k < c_N c → parseFieldDescriptor (c_T c k).2.2.1 = some .boolean → (c_T c k).2.2.1 = "Z")
  ∧ (∀ m, m < 360 → a_pc m 0 = 0)
  ∧ ((∃ i : Nat, lw_tbl[i]? = some (Jvm.Cond.sameMethod "CartoonHouse$Kind" "java/lang/Enum" "ordinal" "()I")) ∧ (∃ i : Nat, lw_tbl[i]? = some (Jvm.Cond.selects "CartoonHouse$Kind" ⟨"CartoonHouse$Kind", "ordinal", "()I"⟩ ⟨"java/lang/Enum", "ordinal", "()I"⟩)) ∧ a_y 344 = ⟨"java/lang/Enum", "ordinal", "()I"⟩ ∧ a_rc 344 = 13 ∧ a_ar 344 = 1 ∧ (∀ m, m < 359 → (a_y m).name = "<init>" → a_rc m - 1 < 12))
  ∧ (∀ m, m < 359 → (a_y m).name = "<init>" → a_rt m = none)
