/-! The classes' words: by the kernel -/
def w_f1 (c k : Nat) : Bool := match parseFieldDescriptor (c_T c k).2.2.1 with
  | some ty => (c_R c k == ty.isReference) && (ty.isReference || decide (ty = .int) || (decide (ty = .boolean) && decide ((c_T c k).2.2.1 = "Z")))
  | none => false
theorem w_f1_of {c k : Nat} (h : w_f1 c k = true) : (parseFieldDescriptor (c_T c k).2.2.1).isSome = true ∧ (c_R c k = true ↔ ∃ ty, parseFieldDescriptor (c_T c k).2.2.1 = some ty ∧ ty.isReference = true) ∧ (c_R c k = false → parseFieldDescriptor (c_T c k).2.2.1 = some .int ∨ parseFieldDescriptor (c_T c k).2.2.1 = some .boolean) ∧ (parseFieldDescriptor (c_T c k).2.2.1 = some .boolean → (c_T c k).2.2.1 = "Z") := by
  unfold w_f1 at h
  split at h
  · rename_i ty hty
    simp only [Bool.and_eq_true, Bool.or_eq_true, beq_iff_eq, decide_eq_true_eq] at h
    obtain ⟨h1, h2⟩ := h
    rw [hty]
    refine ⟨rfl, ⟨fun q => ⟨ty, rfl, by rw [← h1]; exact q⟩, fun ⟨t2, e1, e2⟩ => by cases e1; rw [h1]; exact e2⟩, fun q => ?_, fun q => ?_⟩
    · rcases h2 with (h2 | h2) | h2
      · rw [← h1, q] at h2; cases h2
      · exact Or.inl (by rw [h2])
      · exact Or.inr (by rw [h2.1])
    · cases q
      rcases h2 with (h2 | h2) | h2
      · cases h2
      · cases h2
      · exact h2.2
  · cases h
theorem w_c0 : (lw_tbl[a_ins.getD 0 0]? = some (.instantiable (c_n 0) (c_N 0)) ∧ lw_tbl[a_ini.getD 0 0]? = some (.initialized (c_n 0))) ∧ (∀ k, k < c_N 0 → lw_tbl[(a_lys.getD 0 []).getD k 0]? = some (u_lay (c_n 0) (c_T 0) k) ∧ w_f1 0 k = true ∧ (c_T 0 k).1 = c_n 0) ∧ ∀ a, a < c_N 0 → ∀ b, b < c_N 0 → a ≠ b → (c_T 0 a).2.1 ≠ (c_T 0 b).2.1 := by decide +kernel
theorem w_c1 : (lw_tbl[a_ins.getD 1 0]? = some (.instantiable (c_n 1) (c_N 1)) ∧ lw_tbl[a_ini.getD 1 0]? = some (.initialized (c_n 1))) ∧ (∀ k, k < c_N 1 → lw_tbl[(a_lys.getD 1 []).getD k 0]? = some (u_lay (c_n 1) (c_T 1) k) ∧ w_f1 1 k = true ∧ (c_T 1 k).1 = c_n 1) ∧ ∀ a, a < c_N 1 → ∀ b, b < c_N 1 → a ≠ b → (c_T 1 a).2.1 ≠ (c_T 1 b).2.1 := by decide +kernel
theorem w_c2 : (lw_tbl[a_ins.getD 2 0]? = some (.instantiable (c_n 2) (c_N 2)) ∧ lw_tbl[a_ini.getD 2 0]? = some (.initialized (c_n 2))) ∧ (∀ k, k < c_N 2 → lw_tbl[(a_lys.getD 2 []).getD k 0]? = some (u_lay (c_n 2) (c_T 2) k) ∧ w_f1 2 k = true ∧ (c_T 2 k).1 = c_n 2) ∧ ∀ a, a < c_N 2 → ∀ b, b < c_N 2 → a ≠ b → (c_T 2 a).2.1 ≠ (c_T 2 b).2.1 := by decide +kernel
theorem w_c3 : (lw_tbl[a_ins.getD 3 0]? = some (.instantiable (c_n 3) (c_N 3)) ∧ lw_tbl[a_ini.getD 3 0]? = some (.initialized (c_n 3))) ∧ (∀ k, k < c_N 3 → lw_tbl[(a_lys.getD 3 []).getD k 0]? = some (u_lay (c_n 3) (c_T 3) k) ∧ w_f1 3 k = true ∧ (c_T 3 k).1 = c_n 3) ∧ ∀ a, a < c_N 3 → ∀ b, b < c_N 3 → a ≠ b → (c_T 3 a).2.1 ≠ (c_T 3 b).2.1 := by decide +kernel
theorem w_c4 : (lw_tbl[a_ins.getD 4 0]? = some (.instantiable (c_n 4) (c_N 4)) ∧ lw_tbl[a_ini.getD 4 0]? = some (.initialized (c_n 4))) ∧ (∀ k, k < c_N 4 → lw_tbl[(a_lys.getD 4 []).getD k 0]? = some (u_lay (c_n 4) (c_T 4) k) ∧ w_f1 4 k = true ∧ (c_T 4 k).1 = c_n 4) ∧ ∀ a, a < c_N 4 → ∀ b, b < c_N 4 → a ≠ b → (c_T 4 a).2.1 ≠ (c_T 4 b).2.1 := by decide +kernel
theorem w_c5 : (lw_tbl[a_ins.getD 5 0]? = some (.instantiable (c_n 5) (c_N 5)) ∧ lw_tbl[a_ini.getD 5 0]? = some (.initialized (c_n 5))) ∧ (∀ k, k < c_N 5 → lw_tbl[(a_lys.getD 5 []).getD k 0]? = some (u_lay (c_n 5) (c_T 5) k) ∧ w_f1 5 k = true ∧ (c_T 5 k).1 = c_n 5) ∧ ∀ a, a < c_N 5 → ∀ b, b < c_N 5 → a ≠ b → (c_T 5 a).2.1 ≠ (c_T 5 b).2.1 := by decide +kernel
theorem w_c6 : (lw_tbl[a_ins.getD 6 0]? = some (.instantiable (c_n 6) (c_N 6)) ∧ lw_tbl[a_ini.getD 6 0]? = some (.initialized (c_n 6))) ∧ (∀ k, k < c_N 6 → lw_tbl[(a_lys.getD 6 []).getD k 0]? = some (u_lay (c_n 6) (c_T 6) k) ∧ w_f1 6 k = true ∧ (c_T 6 k).1 = c_n 6) ∧ ∀ a, a < c_N 6 → ∀ b, b < c_N 6 → a ≠ b → (c_T 6 a).2.1 ≠ (c_T 6 b).2.1 := by decide +kernel
theorem w_c7 : (lw_tbl[a_ins.getD 7 0]? = some (.instantiable (c_n 7) (c_N 7)) ∧ lw_tbl[a_ini.getD 7 0]? = some (.initialized (c_n 7))) ∧ (∀ k, k < c_N 7 → lw_tbl[(a_lys.getD 7 []).getD k 0]? = some (u_lay (c_n 7) (c_T 7) k) ∧ w_f1 7 k = true ∧ (c_T 7 k).1 = c_n 7) ∧ ∀ a, a < c_N 7 → ∀ b, b < c_N 7 → a ≠ b → (c_T 7 a).2.1 ≠ (c_T 7 b).2.1 := by decide +kernel
theorem w_c8 : (lw_tbl[a_ins.getD 8 0]? = some (.instantiable (c_n 8) (c_N 8)) ∧ lw_tbl[a_ini.getD 8 0]? = some (.initialized (c_n 8))) ∧ (∀ k, k < c_N 8 → lw_tbl[(a_lys.getD 8 []).getD k 0]? = some (u_lay (c_n 8) (c_T 8) k) ∧ w_f1 8 k = true ∧ (c_T 8 k).1 = c_n 8) ∧ ∀ a, a < c_N 8 → ∀ b, b < c_N 8 → a ≠ b → (c_T 8 a).2.1 ≠ (c_T 8 b).2.1 := by decide +kernel
theorem w_c9 : (lw_tbl[a_ins.getD 9 0]? = some (.instantiable (c_n 9) (c_N 9)) ∧ lw_tbl[a_ini.getD 9 0]? = some (.initialized (c_n 9))) ∧ (∀ k, k < c_N 9 → lw_tbl[(a_lys.getD 9 []).getD k 0]? = some (u_lay (c_n 9) (c_T 9) k) ∧ w_f1 9 k = true ∧ (c_T 9 k).1 = c_n 9) ∧ ∀ a, a < c_N 9 → ∀ b, b < c_N 9 → a ≠ b → (c_T 9 a).2.1 ≠ (c_T 9 b).2.1 := by decide +kernel
theorem w_c10 : (lw_tbl[a_ins.getD 10 0]? = some (.instantiable (c_n 10) (c_N 10)) ∧ lw_tbl[a_ini.getD 10 0]? = some (.initialized (c_n 10))) ∧ (∀ k, k < c_N 10 → lw_tbl[(a_lys.getD 10 []).getD k 0]? = some (u_lay (c_n 10) (c_T 10) k) ∧ w_f1 10 k = true ∧ (c_T 10 k).1 = c_n 10) ∧ ∀ a, a < c_N 10 → ∀ b, b < c_N 10 → a ≠ b → (c_T 10 a).2.1 ≠ (c_T 10 b).2.1 := by decide +kernel
theorem w_c11 : (lw_tbl[a_ins.getD 11 0]? = some (.instantiable (c_n 11) (c_N 11)) ∧ lw_tbl[a_ini.getD 11 0]? = some (.initialized (c_n 11))) ∧ (∀ k, k < c_N 11 → lw_tbl[(a_lys.getD 11 []).getD k 0]? = some (u_lay (c_n 11) (c_T 11) k) ∧ w_f1 11 k = true ∧ (c_T 11 k).1 = c_n 11) ∧ ∀ a, a < c_N 11 → ∀ b, b < c_N 11 → a ≠ b → (c_T 11 a).2.1 ≠ (c_T 11 b).2.1 := by decide +kernel
theorem w_cl : (∀ c, c < 12 → WCl c) ∧ ∀ c k, c < 12 → k < c_N c → parseFieldDescriptor (c_T c k).2.2.1 = some .boolean → (c_T c k).2.2.1 = "Z" := by
  have key : ∀ c, c < 12 → (lw_tbl[a_ins.getD c 0]? = some (.instantiable (c_n c) (c_N c)) ∧ lw_tbl[a_ini.getD c 0]? = some (.initialized (c_n c))) ∧ (∀ k, k < c_N c → lw_tbl[(a_lys.getD c []).getD k 0]? = some (u_lay (c_n c) (c_T c) k) ∧ w_f1 c k = true ∧ (c_T c k).1 = c_n c) ∧ ∀ a, a < c_N c → ∀ b, b < c_N c → a ≠ b → (c_T c a).2.1 ≠ (c_T c b).2.1 := by
    intro c hc
    rcases (show c = 0 ∨ c = 1 ∨ c = 2 ∨ c = 3 ∨ c = 4 ∨ c = 5 ∨ c = 6 ∨ c = 7 ∨ c = 8 ∨ c = 9 ∨ c = 10 ∨ c = 11 by omega) with h | h | h | h | h | h | h | h | h | h | h | h <;> subst h
    · exact w_c0
    · exact w_c1
    · exact w_c2
    · exact w_c3
    · exact w_c4
    · exact w_c5
    · exact w_c6
    · exact w_c7
    · exact w_c8
    · exact w_c9
    · exact w_c10
    · exact w_c11
  constructor
  · intro c hc
    obtain ⟨h1, h2, h3⟩ := key c hc
    refine ⟨h1.1, h1.2, fun k hk => ?_, h3⟩
    obtain ⟨z1, z2, z3⟩ := h2 k hk
    obtain ⟨y1, y2, y3, -⟩ := w_f1_of z2
    exact ⟨z1, y1, z3, y2, y3⟩
  · intro c k hc hk
    exact (w_f1_of ((key c hc).2.1 k hk).2.1).2.2.2
