/-! The links' words: by the kernel -/
theorem w_fls : WFls := by unfold WFls; decide +kernel
theorem w_sts : WSts := by unfold WSts; decide +kernel
theorem w_kns : WKns := by unfold WKns; decide +kernel
theorem w_kls : WKls := by unfold WKls; decide +kernel
theorem w_nls : WNls := by unfold WNls; decide +kernel
theorem w_cls : WCls := by unfold WCls; decide +kernel
theorem w_ocs : ∀ m, m < 360 → c_n (a_oc m) = (a_y m).cls := by
  have h : (List.range 360).all (fun m => decide (c_n (a_oc m) = (a_y m).cls)) = true := by decide +kernel
  intro m hm
  exact of_decide_eq_true (List.all_eq_true.mp h m (List.mem_range.mpr hm))
theorem w_pc0 : ∀ m, m < 360 → a_pc m 0 = 0 := by
  have h : (List.range 360).all (fun m => decide (a_pc m 0 = 0)) = true := by decide +kernel
  intro m hm
  exact of_decide_eq_true (List.all_eq_true.mp h m (List.mem_range.mpr hm))
theorem w_ini : ∀ m, m < 359 → (a_y m).name = "<init>" → a_rc m - 1 < 12 ∧ a_rt m = none := by
  have h : (List.range 359).all (fun m => decide ((a_y m).name = "<init>" → a_rc m - 1 < 12 ∧ (a_rt m).isNone = true)) = true := by decide +kernel
  intro m hm h2
  obtain ⟨h3, h4⟩ := of_decide_eq_true (List.all_eq_true.mp h m (List.mem_range.mpr hm)) h2
  exact ⟨h3, Option.isNone_iff_eq_none.mp h4⟩
