/-! The methods' words: by the kernel -/
set_option maxRecDepth 100000 in
theorem wm_0 : WMth 0 := ⟨rfl, by decide +kernel, by decide +kernel, by decide +kernel, by decide +kernel, by decide +kernel, by decide +kernel, by decide +kernel⟩
theorem ws_0 : a_rc 0 ≠ 0 → (a_y 0).name ≠ "<init>" → (a_y 0).name ≠ "ordinal" → WSel 0 := fun _ h _ => absurd (by decide +kernel) h
set_option maxRecDepth 100000 in
theorem wm_1 : WMth 1 := ⟨rfl, by decide +kernel, by decide +kernel, by decide +kernel, by decide +kernel, by decide +kernel, by decide +kernel, by decide +kernel⟩
theorem ws_1 : a_rc 1 ≠ 0 → (a_y 1).name ≠ "<init>" → (a_y 1).name ≠ "ordinal" → WSel 1 := fun _ _ _ => ⟨by decide +kernel, by decide +kernel, by decide +kernel⟩
set_option maxRecDepth 100000 in
theorem wm_2 : WMth 2 := ⟨rfl, by decide +kernel, by decide +kernel, by decide +kernel, by decide +kernel, by decide +kernel, by decide +kernel, by decide +kernel⟩
theorem ws_2 : a_rc 2 ≠ 0 → (a_y 2).name ≠ "<init>" → (a_y 2).name ≠ "ordinal" → WSel 2 := fun _ _ _ => ⟨by decide +kernel, by decide +kernel, by decide +kernel⟩
set_option maxRecDepth 100000 in
theorem wm_3 : WMth 3 := ⟨rfl, by decide +kernel, by decide +kernel, by decide +kernel, by decide +kernel, by decide +kernel, by decide +kernel, by decide +kernel⟩
theorem ws_3 : a_rc 3 ≠ 0 → (a_y 3).name ≠ "<init>" → (a_y 3).name ≠ "ordinal" → WSel 3 := fun _ _ _ => ⟨by decide +kernel, by decide +kernel, by decide +kernel⟩
set_option maxRecDepth 100000 in
theorem wm_4 : WMth 4 := ⟨rfl, by decide +kernel, by decide +kernel, by decide +kernel, by decide +kernel, by decide +kernel, by decide +kernel, by decide +kernel⟩
theorem ws_4 : a_rc 4 ≠ 0 → (a_y 4).name ≠ "<init>" → (a_y 4).name ≠ "ordinal" → WSel 4 := fun _ _ _ => ⟨by decide +kernel, by decide +kernel, by decide +kernel⟩
set_option maxRecDepth 100000 in
theorem wm_5 : WMth 5 := ⟨rfl, by decide +kernel, by decide +kernel, by decide +kernel, by decide +kernel, by decide +kernel, by decide +kernel, by decide +kernel⟩
theorem ws_5 : a_rc 5 ≠ 0 → (a_y 5).name ≠ "<init>" → (a_y 5).name ≠ "ordinal" → WSel 5 := fun _ _ _ => ⟨by decide +kernel, by decide +kernel, by decide +kernel⟩
set_option maxRecDepth 100000 in
theorem wm_6 : WMth 6 := ⟨rfl, by decide +kernel, by decide +kernel, by decide +kernel, by decide +kernel, by decide +kernel, by decide +kernel, by decide +kernel⟩
theorem ws_6 : a_rc 6 ≠ 0 → (a_y 6).name ≠ "<init>" → (a_y 6).name ≠ "ordinal" → WSel 6 := fun _ _ _ => ⟨by decide +kernel, by decide +kernel, by decide +kernel⟩
set_option maxRecDepth 100000 in
theorem wm_7 : WMth 7 := ⟨rfl, by decide +kernel, by decide +kernel, by decide +kernel, by decide +kernel, by decide +kernel, by decide +kernel, by decide +kernel⟩
theorem ws_7 : a_rc 7 ≠ 0 → (a_y 7).name ≠ "<init>" → (a_y 7).name ≠ "ordinal" → WSel 7 := fun _ _ _ => ⟨by decide +kernel, by decide +kernel, by decide +kernel⟩
set_option maxRecDepth 100000 in
theorem wm_8 : WMth 8 := ⟨rfl, by decide +kernel, by decide +kernel, by decide +kernel, by decide +kernel, by decide +kernel, by decide +kernel, by decide +kernel⟩
theorem ws_8 : a_rc 8 ≠ 0 → (a_y 8).name ≠ "<init>" → (a_y 8).name ≠ "ordinal" → WSel 8 := fun _ h _ => absurd (by decide +kernel) h
set_option maxRecDepth 100000 in
theorem wm_9 : WMth 9 := ⟨rfl, by decide +kernel, by decide +kernel, by decide +kernel, by decide +kernel, by decide +kernel, by decide +kernel, by decide +kernel⟩
theorem ws_9 : a_rc 9 ≠ 0 → (a_y 9).name ≠ "<init>" → (a_y 9).name ≠ "ordinal" → WSel 9 := fun _ _ _ => ⟨by decide +kernel, by decide +kernel, by decide +kernel⟩
set_option maxRecDepth 100000 in
theorem wm_10 : WMth 10 := ⟨rfl, by decide +kernel, by decide +kernel, by decide +kernel, by decide +kernel, by decide +kernel, by decide +kernel, by decide +kernel⟩
theorem ws_10 : a_rc 10 ≠ 0 → (a_y 10).name ≠ "<init>" → (a_y 10).name ≠ "ordinal" → WSel 10 := fun _ _ _ => ⟨by decide +kernel, by decide +kernel, by decide +kernel⟩
set_option maxRecDepth 100000 in
theorem wm_11 : WMth 11 := ⟨rfl, by decide +kernel, by decide +kernel, by decide +kernel, by decide +kernel, by decide +kernel, by decide +kernel, by decide +kernel⟩
theorem ws_11 : a_rc 11 ≠ 0 → (a_y 11).name ≠ "<init>" → (a_y 11).name ≠ "ordinal" → WSel 11 := fun _ _ _ => ⟨by decide +kernel, by decide +kernel, by decide +kernel⟩
set_option maxRecDepth 100000 in
theorem wm_12 : WMth 12 := ⟨rfl, by decide +kernel, by decide +kernel, by decide +kernel, by decide +kernel, by decide +kernel, by decide +kernel, by decide +kernel⟩
theorem ws_12 : a_rc 12 ≠ 0 → (a_y 12).name ≠ "<init>" → (a_y 12).name ≠ "ordinal" → WSel 12 := fun _ _ _ => ⟨by decide +kernel, by decide +kernel, by decide +kernel⟩
set_option maxRecDepth 100000 in
theorem wm_13 : WMth 13 := ⟨rfl, by decide +kernel, by decide +kernel, by decide +kernel, by decide +kernel, by decide +kernel, by decide +kernel, by decide +kernel⟩
theorem ws_13 : a_rc 13 ≠ 0 → (a_y 13).name ≠ "<init>" → (a_y 13).name ≠ "ordinal" → WSel 13 := fun _ _ _ => ⟨by decide +kernel, by decide +kernel, by decide +kernel⟩
set_option maxRecDepth 100000 in
theorem wm_14 : WMth 14 := ⟨rfl, by decide +kernel, by decide +kernel, by decide +kernel, by decide +kernel, by decide +kernel, by decide +kernel, by decide +kernel⟩
theorem ws_14 : a_rc 14 ≠ 0 → (a_y 14).name ≠ "<init>" → (a_y 14).name ≠ "ordinal" → WSel 14 := fun _ _ _ => ⟨by decide +kernel, by decide +kernel, by decide +kernel⟩
set_option maxRecDepth 100000 in
theorem wm_15 : WMth 15 := ⟨rfl, by decide +kernel, by decide +kernel, by decide +kernel, by decide +kernel, by decide +kernel, by decide +kernel, by decide +kernel⟩
theorem ws_15 : a_rc 15 ≠ 0 → (a_y 15).name ≠ "<init>" → (a_y 15).name ≠ "ordinal" → WSel 15 := fun _ _ _ => ⟨by decide +kernel, by decide +kernel, by decide +kernel⟩
set_option maxRecDepth 100000 in
theorem wm_16 : WMth 16 := ⟨rfl, by decide +kernel, by decide +kernel, by decide +kernel, by decide +kernel, by decide +kernel, by decide +kernel, by decide +kernel⟩
theorem ws_16 : a_rc 16 ≠ 0 → (a_y 16).name ≠ "<init>" → (a_y 16).name ≠ "ordinal" → WSel 16 := fun _ _ _ => ⟨by decide +kernel, by decide +kernel, by decide +kernel⟩
set_option maxRecDepth 100000 in
theorem wm_17 : WMth 17 := ⟨rfl, by decide +kernel, by decide +kernel, by decide +kernel, by decide +kernel, by decide +kernel, by decide +kernel, by decide +kernel⟩
theorem ws_17 : a_rc 17 ≠ 0 → (a_y 17).name ≠ "<init>" → (a_y 17).name ≠ "ordinal" → WSel 17 := fun _ _ _ => ⟨by decide +kernel, by decide +kernel, by decide +kernel⟩
set_option maxRecDepth 100000 in
theorem wm_18 : WMth 18 := ⟨rfl, by decide +kernel, by decide +kernel, by decide +kernel, by decide +kernel, by decide +kernel, by decide +kernel, by decide +kernel⟩
theorem ws_18 : a_rc 18 ≠ 0 → (a_y 18).name ≠ "<init>" → (a_y 18).name ≠ "ordinal" → WSel 18 := fun _ _ _ => ⟨by decide +kernel, by decide +kernel, by decide +kernel⟩
set_option maxRecDepth 100000 in
theorem wm_19 : WMth 19 := ⟨rfl, by decide +kernel, by decide +kernel, by decide +kernel, by decide +kernel, by decide +kernel, by decide +kernel, by decide +kernel⟩
theorem ws_19 : a_rc 19 ≠ 0 → (a_y 19).name ≠ "<init>" → (a_y 19).name ≠ "ordinal" → WSel 19 := fun _ _ _ => ⟨by decide +kernel, by decide +kernel, by decide +kernel⟩
theorem wmc_0 : ∀ k, k < 20 → WMth (0 + k) ∧ (a_rc (0 + k) ≠ 0 → (a_y (0 + k)).name ≠ "<init>" → (a_y (0 + k)).name ≠ "ordinal" → WSel (0 + k)) := by
  intro k hk
  rcases (show k = 0 ∨ k = 1 ∨ k = 2 ∨ k = 3 ∨ k = 4 ∨ k = 5 ∨ k = 6 ∨ k = 7 ∨ k = 8 ∨ k = 9 ∨ k = 10 ∨ k = 11 ∨ k = 12 ∨ k = 13 ∨ k = 14 ∨ k = 15 ∨ k = 16 ∨ k = 17 ∨ k = 18 ∨ k = 19 by omega) with h | h | h | h | h | h | h | h | h | h | h | h | h | h | h | h | h | h | h | h <;> subst h
  · exact ⟨wm_0, ws_0⟩
  · exact ⟨wm_1, ws_1⟩
  · exact ⟨wm_2, ws_2⟩
  · exact ⟨wm_3, ws_3⟩
  · exact ⟨wm_4, ws_4⟩
  · exact ⟨wm_5, ws_5⟩
  · exact ⟨wm_6, ws_6⟩
  · exact ⟨wm_7, ws_7⟩
  · exact ⟨wm_8, ws_8⟩
  · exact ⟨wm_9, ws_9⟩
  · exact ⟨wm_10, ws_10⟩
  · exact ⟨wm_11, ws_11⟩
  · exact ⟨wm_12, ws_12⟩
  · exact ⟨wm_13, ws_13⟩
  · exact ⟨wm_14, ws_14⟩
  · exact ⟨wm_15, ws_15⟩
  · exact ⟨wm_16, ws_16⟩
  · exact ⟨wm_17, ws_17⟩
  · exact ⟨wm_18, ws_18⟩
  · exact ⟨wm_19, ws_19⟩
set_option maxRecDepth 100000 in
theorem wm_20 : WMth 20 := ⟨rfl, by decide +kernel, by decide +kernel, by decide +kernel, by decide +kernel, by decide +kernel, by decide +kernel, by decide +kernel⟩
theorem ws_20 : a_rc 20 ≠ 0 → (a_y 20).name ≠ "<init>" → (a_y 20).name ≠ "ordinal" → WSel 20 := fun _ _ _ => ⟨by decide +kernel, by decide +kernel, by decide +kernel⟩
set_option maxRecDepth 100000 in
theorem wm_21 : WMth 21 := ⟨rfl, by decide +kernel, by decide +kernel, by decide +kernel, by decide +kernel, by decide +kernel, by decide +kernel, by decide +kernel⟩
theorem ws_21 : a_rc 21 ≠ 0 → (a_y 21).name ≠ "<init>" → (a_y 21).name ≠ "ordinal" → WSel 21 := fun _ _ _ => ⟨by decide +kernel, by decide +kernel, by decide +kernel⟩
set_option maxRecDepth 100000 in
theorem wm_22 : WMth 22 := ⟨rfl, by decide +kernel, by decide +kernel, by decide +kernel, by decide +kernel, by decide +kernel, by decide +kernel, by decide +kernel⟩
theorem ws_22 : a_rc 22 ≠ 0 → (a_y 22).name ≠ "<init>" → (a_y 22).name ≠ "ordinal" → WSel 22 := fun _ _ _ => ⟨by decide +kernel, by decide +kernel, by decide +kernel⟩
set_option maxRecDepth 100000 in
theorem wm_23 : WMth 23 := ⟨rfl, by decide +kernel, by decide +kernel, by decide +kernel, by decide +kernel, by decide +kernel, by decide +kernel, by decide +kernel⟩
theorem ws_23 : a_rc 23 ≠ 0 → (a_y 23).name ≠ "<init>" → (a_y 23).name ≠ "ordinal" → WSel 23 := fun _ _ _ => ⟨by decide +kernel, by decide +kernel, by decide +kernel⟩
set_option maxRecDepth 100000 in
theorem wm_24 : WMth 24 := ⟨rfl, by decide +kernel, by decide +kernel, by decide +kernel, by decide +kernel, by decide +kernel, by decide +kernel, by decide +kernel⟩
theorem ws_24 : a_rc 24 ≠ 0 → (a_y 24).name ≠ "<init>" → (a_y 24).name ≠ "ordinal" → WSel 24 := fun _ _ _ => ⟨by decide +kernel, by decide +kernel, by decide +kernel⟩
set_option maxRecDepth 100000 in
theorem wm_25 : WMth 25 := ⟨rfl, by decide +kernel, by decide +kernel, by decide +kernel, by decide +kernel, by decide +kernel, by decide +kernel, by decide +kernel⟩
theorem ws_25 : a_rc 25 ≠ 0 → (a_y 25).name ≠ "<init>" → (a_y 25).name ≠ "ordinal" → WSel 25 := fun _ _ _ => ⟨by decide +kernel, by decide +kernel, by decide +kernel⟩
set_option maxRecDepth 100000 in
theorem wm_26 : WMth 26 := ⟨rfl, by decide +kernel, by decide +kernel, by decide +kernel, by decide +kernel, by decide +kernel, by decide +kernel, by decide +kernel⟩
theorem ws_26 : a_rc 26 ≠ 0 → (a_y 26).name ≠ "<init>" → (a_y 26).name ≠ "ordinal" → WSel 26 := fun _ _ _ => ⟨by decide +kernel, by decide +kernel, by decide +kernel⟩
set_option maxRecDepth 100000 in
theorem wm_27 : WMth 27 := ⟨rfl, by decide +kernel, by decide +kernel, by decide +kernel, by decide +kernel, by decide +kernel, by decide +kernel, by decide +kernel⟩
theorem ws_27 : a_rc 27 ≠ 0 → (a_y 27).name ≠ "<init>" → (a_y 27).name ≠ "ordinal" → WSel 27 := fun _ _ _ => ⟨by decide +kernel, by decide +kernel, by decide +kernel⟩
set_option maxRecDepth 100000 in
theorem wm_28 : WMth 28 := ⟨rfl, by decide +kernel, by decide +kernel, by decide +kernel, by decide +kernel, by decide +kernel, by decide +kernel, by decide +kernel⟩
theorem ws_28 : a_rc 28 ≠ 0 → (a_y 28).name ≠ "<init>" → (a_y 28).name ≠ "ordinal" → WSel 28 := fun _ _ _ => ⟨by decide +kernel, by decide +kernel, by decide +kernel⟩
set_option maxRecDepth 100000 in
theorem wm_29 : WMth 29 := ⟨rfl, by decide +kernel, by decide +kernel, by decide +kernel, by decide +kernel, by decide +kernel, by decide +kernel, by decide +kernel⟩
theorem ws_29 : a_rc 29 ≠ 0 → (a_y 29).name ≠ "<init>" → (a_y 29).name ≠ "ordinal" → WSel 29 := fun _ h _ => absurd (by decide +kernel) h
set_option maxRecDepth 100000 in
theorem wm_30 : WMth 30 := ⟨rfl, by decide +kernel, by decide +kernel, by decide +kernel, by decide +kernel, by decide +kernel, by decide +kernel, by decide +kernel⟩
theorem ws_30 : a_rc 30 ≠ 0 → (a_y 30).name ≠ "<init>" → (a_y 30).name ≠ "ordinal" → WSel 30 := fun _ _ _ => ⟨by decide +kernel, by decide +kernel, by decide +kernel⟩
set_option maxRecDepth 100000 in
theorem wm_31 : WMth 31 := ⟨rfl, by decide +kernel, by decide +kernel, by decide +kernel, by decide +kernel, by decide +kernel, by decide +kernel, by decide +kernel⟩
theorem ws_31 : a_rc 31 ≠ 0 → (a_y 31).name ≠ "<init>" → (a_y 31).name ≠ "ordinal" → WSel 31 := fun _ _ _ => ⟨by decide +kernel, by decide +kernel, by decide +kernel⟩
set_option maxRecDepth 100000 in
theorem wm_32 : WMth 32 := ⟨rfl, by decide +kernel, by decide +kernel, by decide +kernel, by decide +kernel, by decide +kernel, by decide +kernel, by decide +kernel⟩
theorem ws_32 : a_rc 32 ≠ 0 → (a_y 32).name ≠ "<init>" → (a_y 32).name ≠ "ordinal" → WSel 32 := fun h _ _ => absurd (by decide +kernel) h
set_option maxRecDepth 100000 in
theorem wm_33 : WMth 33 := ⟨rfl, by decide +kernel, by decide +kernel, by decide +kernel, by decide +kernel, by decide +kernel, by decide +kernel, by decide +kernel⟩
theorem ws_33 : a_rc 33 ≠ 0 → (a_y 33).name ≠ "<init>" → (a_y 33).name ≠ "ordinal" → WSel 33 := fun _ _ _ => ⟨by decide +kernel, by decide +kernel, by decide +kernel⟩
set_option maxRecDepth 100000 in
theorem wm_34 : WMth 34 := ⟨rfl, by decide +kernel, by decide +kernel, by decide +kernel, by decide +kernel, by decide +kernel, by decide +kernel, by decide +kernel⟩
theorem ws_34 : a_rc 34 ≠ 0 → (a_y 34).name ≠ "<init>" → (a_y 34).name ≠ "ordinal" → WSel 34 := fun _ _ _ => ⟨by decide +kernel, by decide +kernel, by decide +kernel⟩
set_option maxRecDepth 100000 in
theorem wm_35 : WMth 35 := ⟨rfl, by decide +kernel, by decide +kernel, by decide +kernel, by decide +kernel, by decide +kernel, by decide +kernel, by decide +kernel⟩
theorem ws_35 : a_rc 35 ≠ 0 → (a_y 35).name ≠ "<init>" → (a_y 35).name ≠ "ordinal" → WSel 35 := fun _ _ _ => ⟨by decide +kernel, by decide +kernel, by decide +kernel⟩
set_option maxRecDepth 100000 in
theorem wm_36 : WMth 36 := ⟨rfl, by decide +kernel, by decide +kernel, by decide +kernel, by decide +kernel, by decide +kernel, by decide +kernel, by decide +kernel⟩
theorem ws_36 : a_rc 36 ≠ 0 → (a_y 36).name ≠ "<init>" → (a_y 36).name ≠ "ordinal" → WSel 36 := fun _ _ _ => ⟨by decide +kernel, by decide +kernel, by decide +kernel⟩
set_option maxRecDepth 100000 in
theorem wm_37 : WMth 37 := ⟨rfl, by decide +kernel, by decide +kernel, by decide +kernel, by decide +kernel, by decide +kernel, by decide +kernel, by decide +kernel⟩
theorem ws_37 : a_rc 37 ≠ 0 → (a_y 37).name ≠ "<init>" → (a_y 37).name ≠ "ordinal" → WSel 37 := fun _ _ _ => ⟨by decide +kernel, by decide +kernel, by decide +kernel⟩
set_option maxRecDepth 100000 in
theorem wm_38 : WMth 38 := ⟨rfl, by decide +kernel, by decide +kernel, by decide +kernel, by decide +kernel, by decide +kernel, by decide +kernel, by decide +kernel⟩
theorem ws_38 : a_rc 38 ≠ 0 → (a_y 38).name ≠ "<init>" → (a_y 38).name ≠ "ordinal" → WSel 38 := fun _ h _ => absurd (by decide +kernel) h
set_option maxRecDepth 100000 in
theorem wm_39 : WMth 39 := ⟨rfl, by decide +kernel, by decide +kernel, by decide +kernel, by decide +kernel, by decide +kernel, by decide +kernel, by decide +kernel⟩
theorem ws_39 : a_rc 39 ≠ 0 → (a_y 39).name ≠ "<init>" → (a_y 39).name ≠ "ordinal" → WSel 39 := fun _ _ _ => ⟨by decide +kernel, by decide +kernel, by decide +kernel⟩
theorem wmc_20 : ∀ k, k < 20 → WMth (20 + k) ∧ (a_rc (20 + k) ≠ 0 → (a_y (20 + k)).name ≠ "<init>" → (a_y (20 + k)).name ≠ "ordinal" → WSel (20 + k)) := by
  intro k hk
  rcases (show k = 0 ∨ k = 1 ∨ k = 2 ∨ k = 3 ∨ k = 4 ∨ k = 5 ∨ k = 6 ∨ k = 7 ∨ k = 8 ∨ k = 9 ∨ k = 10 ∨ k = 11 ∨ k = 12 ∨ k = 13 ∨ k = 14 ∨ k = 15 ∨ k = 16 ∨ k = 17 ∨ k = 18 ∨ k = 19 by omega) with h | h | h | h | h | h | h | h | h | h | h | h | h | h | h | h | h | h | h | h <;> subst h
  · exact ⟨wm_20, ws_20⟩
  · exact ⟨wm_21, ws_21⟩
  · exact ⟨wm_22, ws_22⟩
  · exact ⟨wm_23, ws_23⟩
  · exact ⟨wm_24, ws_24⟩
  · exact ⟨wm_25, ws_25⟩
  · exact ⟨wm_26, ws_26⟩
  · exact ⟨wm_27, ws_27⟩
  · exact ⟨wm_28, ws_28⟩
  · exact ⟨wm_29, ws_29⟩
  · exact ⟨wm_30, ws_30⟩
  · exact ⟨wm_31, ws_31⟩
  · exact ⟨wm_32, ws_32⟩
  · exact ⟨wm_33, ws_33⟩
  · exact ⟨wm_34, ws_34⟩
  · exact ⟨wm_35, ws_35⟩
  · exact ⟨wm_36, ws_36⟩
  · exact ⟨wm_37, ws_37⟩
  · exact ⟨wm_38, ws_38⟩
  · exact ⟨wm_39, ws_39⟩
set_option maxRecDepth 100000 in
theorem wm_40 : WMth 40 := ⟨rfl, by decide +kernel, by decide +kernel, by decide +kernel, by decide +kernel, by decide +kernel, by decide +kernel, by decide +kernel⟩
theorem ws_40 : a_rc 40 ≠ 0 → (a_y 40).name ≠ "<init>" → (a_y 40).name ≠ "ordinal" → WSel 40 := fun _ _ _ => ⟨by decide +kernel, by decide +kernel, by decide +kernel⟩
set_option maxRecDepth 100000 in
theorem wm_41 : WMth 41 := ⟨rfl, by decide +kernel, by decide +kernel, by decide +kernel, by decide +kernel, by decide +kernel, by decide +kernel, by decide +kernel⟩
theorem ws_41 : a_rc 41 ≠ 0 → (a_y 41).name ≠ "<init>" → (a_y 41).name ≠ "ordinal" → WSel 41 := fun _ _ _ => ⟨by decide +kernel, by decide +kernel, by decide +kernel⟩
set_option maxRecDepth 100000 in
theorem wm_42 : WMth 42 := ⟨rfl, by decide +kernel, by decide +kernel, by decide +kernel, by decide +kernel, by decide +kernel, by decide +kernel, by decide +kernel⟩
theorem ws_42 : a_rc 42 ≠ 0 → (a_y 42).name ≠ "<init>" → (a_y 42).name ≠ "ordinal" → WSel 42 := fun _ _ _ => ⟨by decide +kernel, by decide +kernel, by decide +kernel⟩
set_option maxRecDepth 100000 in
theorem wm_43 : WMth 43 := ⟨rfl, by decide +kernel, by decide +kernel, by decide +kernel, by decide +kernel, by decide +kernel, by decide +kernel, by decide +kernel⟩
theorem ws_43 : a_rc 43 ≠ 0 → (a_y 43).name ≠ "<init>" → (a_y 43).name ≠ "ordinal" → WSel 43 := fun _ _ _ => ⟨by decide +kernel, by decide +kernel, by decide +kernel⟩
set_option maxRecDepth 100000 in
theorem wm_44 : WMth 44 := ⟨rfl, by decide +kernel, by decide +kernel, by decide +kernel, by decide +kernel, by decide +kernel, by decide +kernel, by decide +kernel⟩
theorem ws_44 : a_rc 44 ≠ 0 → (a_y 44).name ≠ "<init>" → (a_y 44).name ≠ "ordinal" → WSel 44 := fun _ _ _ => ⟨by decide +kernel, by decide +kernel, by decide +kernel⟩
set_option maxRecDepth 100000 in
theorem wm_45 : WMth 45 := ⟨rfl, by decide +kernel, by decide +kernel, by decide +kernel, by decide +kernel, by decide +kernel, by decide +kernel, by decide +kernel⟩
theorem ws_45 : a_rc 45 ≠ 0 → (a_y 45).name ≠ "<init>" → (a_y 45).name ≠ "ordinal" → WSel 45 := fun _ _ _ => ⟨by decide +kernel, by decide +kernel, by decide +kernel⟩
set_option maxRecDepth 100000 in
theorem wm_46 : WMth 46 := ⟨rfl, by decide +kernel, by decide +kernel, by decide +kernel, by decide +kernel, by decide +kernel, by decide +kernel, by decide +kernel⟩
theorem ws_46 : a_rc 46 ≠ 0 → (a_y 46).name ≠ "<init>" → (a_y 46).name ≠ "ordinal" → WSel 46 := fun _ _ _ => ⟨by decide +kernel, by decide +kernel, by decide +kernel⟩
set_option maxRecDepth 100000 in
theorem wm_47 : WMth 47 := ⟨rfl, by decide +kernel, by decide +kernel, by decide +kernel, by decide +kernel, by decide +kernel, by decide +kernel, by decide +kernel⟩
theorem ws_47 : a_rc 47 ≠ 0 → (a_y 47).name ≠ "<init>" → (a_y 47).name ≠ "ordinal" → WSel 47 := fun _ _ _ => ⟨by decide +kernel, by decide +kernel, by decide +kernel⟩
set_option maxRecDepth 100000 in
theorem wm_48 : WMth 48 := ⟨rfl, by decide +kernel, by decide +kernel, by decide +kernel, by decide +kernel, by decide +kernel, by decide +kernel, by decide +kernel⟩
theorem ws_48 : a_rc 48 ≠ 0 → (a_y 48).name ≠ "<init>" → (a_y 48).name ≠ "ordinal" → WSel 48 := fun _ _ _ => ⟨by decide +kernel, by decide +kernel, by decide +kernel⟩
set_option maxRecDepth 100000 in
theorem wm_49 : WMth 49 := ⟨rfl, by decide +kernel, by decide +kernel, by decide +kernel, by decide +kernel, by decide +kernel, by decide +kernel, by decide +kernel⟩
theorem ws_49 : a_rc 49 ≠ 0 → (a_y 49).name ≠ "<init>" → (a_y 49).name ≠ "ordinal" → WSel 49 := fun _ _ _ => ⟨by decide +kernel, by decide +kernel, by decide +kernel⟩
set_option maxRecDepth 100000 in
theorem wm_50 : WMth 50 := ⟨rfl, by decide +kernel, by decide +kernel, by decide +kernel, by decide +kernel, by decide +kernel, by decide +kernel, by decide +kernel⟩
theorem ws_50 : a_rc 50 ≠ 0 → (a_y 50).name ≠ "<init>" → (a_y 50).name ≠ "ordinal" → WSel 50 := fun _ h _ => absurd (by decide +kernel) h
set_option maxRecDepth 100000 in
theorem wm_51 : WMth 51 := ⟨rfl, by decide +kernel, by decide +kernel, by decide +kernel, by decide +kernel, by decide +kernel, by decide +kernel, by decide +kernel⟩
theorem ws_51 : a_rc 51 ≠ 0 → (a_y 51).name ≠ "<init>" → (a_y 51).name ≠ "ordinal" → WSel 51 := fun _ _ _ => ⟨by decide +kernel, by decide +kernel, by decide +kernel⟩
set_option maxRecDepth 100000 in
theorem wm_52 : WMth 52 := ⟨rfl, by decide +kernel, by decide +kernel, by decide +kernel, by decide +kernel, by decide +kernel, by decide +kernel, by decide +kernel⟩
theorem ws_52 : a_rc 52 ≠ 0 → (a_y 52).name ≠ "<init>" → (a_y 52).name ≠ "ordinal" → WSel 52 := fun _ _ _ => ⟨by decide +kernel, by decide +kernel, by decide +kernel⟩
set_option maxRecDepth 100000 in
theorem wm_53 : WMth 53 := ⟨rfl, by decide +kernel, by decide +kernel, by decide +kernel, by decide +kernel, by decide +kernel, by decide +kernel, by decide +kernel⟩
theorem ws_53 : a_rc 53 ≠ 0 → (a_y 53).name ≠ "<init>" → (a_y 53).name ≠ "ordinal" → WSel 53 := fun _ _ _ => ⟨by decide +kernel, by decide +kernel, by decide +kernel⟩
set_option maxRecDepth 100000 in
theorem wm_54 : WMth 54 := ⟨rfl, by decide +kernel, by decide +kernel, by decide +kernel, by decide +kernel, by decide +kernel, by decide +kernel, by decide +kernel⟩
theorem ws_54 : a_rc 54 ≠ 0 → (a_y 54).name ≠ "<init>" → (a_y 54).name ≠ "ordinal" → WSel 54 := fun _ _ _ => ⟨by decide +kernel, by decide +kernel, by decide +kernel⟩
set_option maxRecDepth 100000 in
theorem wm_55 : WMth 55 := ⟨rfl, by decide +kernel, by decide +kernel, by decide +kernel, by decide +kernel, by decide +kernel, by decide +kernel, by decide +kernel⟩
theorem ws_55 : a_rc 55 ≠ 0 → (a_y 55).name ≠ "<init>" → (a_y 55).name ≠ "ordinal" → WSel 55 := fun _ _ _ => ⟨by decide +kernel, by decide +kernel, by decide +kernel⟩
set_option maxRecDepth 100000 in
theorem wm_56 : WMth 56 := ⟨rfl, by decide +kernel, by decide +kernel, by decide +kernel, by decide +kernel, by decide +kernel, by decide +kernel, by decide +kernel⟩
theorem ws_56 : a_rc 56 ≠ 0 → (a_y 56).name ≠ "<init>" → (a_y 56).name ≠ "ordinal" → WSel 56 := fun _ _ _ => ⟨by decide +kernel, by decide +kernel, by decide +kernel⟩
set_option maxRecDepth 100000 in
theorem wm_57 : WMth 57 := ⟨rfl, by decide +kernel, by decide +kernel, by decide +kernel, by decide +kernel, by decide +kernel, by decide +kernel, by decide +kernel⟩
theorem ws_57 : a_rc 57 ≠ 0 → (a_y 57).name ≠ "<init>" → (a_y 57).name ≠ "ordinal" → WSel 57 := fun _ h _ => absurd (by decide +kernel) h
set_option maxRecDepth 100000 in
theorem wm_58 : WMth 58 := ⟨rfl, by decide +kernel, by decide +kernel, by decide +kernel, by decide +kernel, by decide +kernel, by decide +kernel, by decide +kernel⟩
theorem ws_58 : a_rc 58 ≠ 0 → (a_y 58).name ≠ "<init>" → (a_y 58).name ≠ "ordinal" → WSel 58 := fun _ _ _ => ⟨by decide +kernel, by decide +kernel, by decide +kernel⟩
set_option maxRecDepth 100000 in
theorem wm_59 : WMth 59 := ⟨rfl, by decide +kernel, by decide +kernel, by decide +kernel, by decide +kernel, by decide +kernel, by decide +kernel, by decide +kernel⟩
theorem ws_59 : a_rc 59 ≠ 0 → (a_y 59).name ≠ "<init>" → (a_y 59).name ≠ "ordinal" → WSel 59 := fun _ _ _ => ⟨by decide +kernel, by decide +kernel, by decide +kernel⟩
theorem wmc_40 : ∀ k, k < 20 → WMth (40 + k) ∧ (a_rc (40 + k) ≠ 0 → (a_y (40 + k)).name ≠ "<init>" → (a_y (40 + k)).name ≠ "ordinal" → WSel (40 + k)) := by
  intro k hk
  rcases (show k = 0 ∨ k = 1 ∨ k = 2 ∨ k = 3 ∨ k = 4 ∨ k = 5 ∨ k = 6 ∨ k = 7 ∨ k = 8 ∨ k = 9 ∨ k = 10 ∨ k = 11 ∨ k = 12 ∨ k = 13 ∨ k = 14 ∨ k = 15 ∨ k = 16 ∨ k = 17 ∨ k = 18 ∨ k = 19 by omega) with h | h | h | h | h | h | h | h | h | h | h | h | h | h | h | h | h | h | h | h <;> subst h
  · exact ⟨wm_40, ws_40⟩
  · exact ⟨wm_41, ws_41⟩
  · exact ⟨wm_42, ws_42⟩
  · exact ⟨wm_43, ws_43⟩
  · exact ⟨wm_44, ws_44⟩
  · exact ⟨wm_45, ws_45⟩
  · exact ⟨wm_46, ws_46⟩
  · exact ⟨wm_47, ws_47⟩
  · exact ⟨wm_48, ws_48⟩
  · exact ⟨wm_49, ws_49⟩
  · exact ⟨wm_50, ws_50⟩
  · exact ⟨wm_51, ws_51⟩
  · exact ⟨wm_52, ws_52⟩
  · exact ⟨wm_53, ws_53⟩
  · exact ⟨wm_54, ws_54⟩
  · exact ⟨wm_55, ws_55⟩
  · exact ⟨wm_56, ws_56⟩
  · exact ⟨wm_57, ws_57⟩
  · exact ⟨wm_58, ws_58⟩
  · exact ⟨wm_59, ws_59⟩
set_option maxRecDepth 100000 in
theorem wm_60 : WMth 60 := ⟨rfl, by decide +kernel, by decide +kernel, by decide +kernel, by decide +kernel, by decide +kernel, by decide +kernel, by decide +kernel⟩
theorem ws_60 : a_rc 60 ≠ 0 → (a_y 60).name ≠ "<init>" → (a_y 60).name ≠ "ordinal" → WSel 60 := fun _ _ _ => ⟨by decide +kernel, by decide +kernel, by decide +kernel⟩
set_option maxRecDepth 100000 in
theorem wm_61 : WMth 61 := ⟨rfl, by decide +kernel, by decide +kernel, by decide +kernel, by decide +kernel, by decide +kernel, by decide +kernel, by decide +kernel⟩
theorem ws_61 : a_rc 61 ≠ 0 → (a_y 61).name ≠ "<init>" → (a_y 61).name ≠ "ordinal" → WSel 61 := fun _ _ _ => ⟨by decide +kernel, by decide +kernel, by decide +kernel⟩
set_option maxRecDepth 100000 in
theorem wm_62 : WMth 62 := ⟨rfl, by decide +kernel, by decide +kernel, by decide +kernel, by decide +kernel, by decide +kernel, by decide +kernel, by decide +kernel⟩
theorem ws_62 : a_rc 62 ≠ 0 → (a_y 62).name ≠ "<init>" → (a_y 62).name ≠ "ordinal" → WSel 62 := fun _ _ _ => ⟨by decide +kernel, by decide +kernel, by decide +kernel⟩
set_option maxRecDepth 100000 in
theorem wm_63 : WMth 63 := ⟨rfl, by decide +kernel, by decide +kernel, by decide +kernel, by decide +kernel, by decide +kernel, by decide +kernel, by decide +kernel⟩
theorem ws_63 : a_rc 63 ≠ 0 → (a_y 63).name ≠ "<init>" → (a_y 63).name ≠ "ordinal" → WSel 63 := fun _ _ _ => ⟨by decide +kernel, by decide +kernel, by decide +kernel⟩
set_option maxRecDepth 100000 in
theorem wm_64 : WMth 64 := ⟨rfl, by decide +kernel, by decide +kernel, by decide +kernel, by decide +kernel, by decide +kernel, by decide +kernel, by decide +kernel⟩
theorem ws_64 : a_rc 64 ≠ 0 → (a_y 64).name ≠ "<init>" → (a_y 64).name ≠ "ordinal" → WSel 64 := fun _ _ _ => ⟨by decide +kernel, by decide +kernel, by decide +kernel⟩
set_option maxRecDepth 100000 in
theorem wm_65 : WMth 65 := ⟨rfl, by decide +kernel, by decide +kernel, by decide +kernel, by decide +kernel, by decide +kernel, by decide +kernel, by decide +kernel⟩
theorem ws_65 : a_rc 65 ≠ 0 → (a_y 65).name ≠ "<init>" → (a_y 65).name ≠ "ordinal" → WSel 65 := fun h _ _ => absurd (by decide +kernel) h
set_option maxRecDepth 100000 in
theorem wm_66 : WMth 66 := ⟨rfl, by decide +kernel, by decide +kernel, by decide +kernel, by decide +kernel, by decide +kernel, by decide +kernel, by decide +kernel⟩
theorem ws_66 : a_rc 66 ≠ 0 → (a_y 66).name ≠ "<init>" → (a_y 66).name ≠ "ordinal" → WSel 66 := fun _ _ _ => ⟨by decide +kernel, by decide +kernel, by decide +kernel⟩
set_option maxRecDepth 100000 in
theorem wm_67 : WMth 67 := ⟨rfl, by decide +kernel, by decide +kernel, by decide +kernel, by decide +kernel, by decide +kernel, by decide +kernel, by decide +kernel⟩
theorem ws_67 : a_rc 67 ≠ 0 → (a_y 67).name ≠ "<init>" → (a_y 67).name ≠ "ordinal" → WSel 67 := fun _ _ _ => ⟨by decide +kernel, by decide +kernel, by decide +kernel⟩
set_option maxRecDepth 100000 in
theorem wm_68 : WMth 68 := ⟨rfl, by decide +kernel, by decide +kernel, by decide +kernel, by decide +kernel, by decide +kernel, by decide +kernel, by decide +kernel⟩
theorem ws_68 : a_rc 68 ≠ 0 → (a_y 68).name ≠ "<init>" → (a_y 68).name ≠ "ordinal" → WSel 68 := fun _ h _ => absurd (by decide +kernel) h
set_option maxRecDepth 100000 in
theorem wm_69 : WMth 69 := ⟨rfl, by decide +kernel, by decide +kernel, by decide +kernel, by decide +kernel, by decide +kernel, by decide +kernel, by decide +kernel⟩
theorem ws_69 : a_rc 69 ≠ 0 → (a_y 69).name ≠ "<init>" → (a_y 69).name ≠ "ordinal" → WSel 69 := fun _ _ _ => ⟨by decide +kernel, by decide +kernel, by decide +kernel⟩
set_option maxRecDepth 100000 in
theorem wm_70 : WMth 70 := ⟨rfl, by decide +kernel, by decide +kernel, by decide +kernel, by decide +kernel, by decide +kernel, by decide +kernel, by decide +kernel⟩
theorem ws_70 : a_rc 70 ≠ 0 → (a_y 70).name ≠ "<init>" → (a_y 70).name ≠ "ordinal" → WSel 70 := fun _ _ _ => ⟨by decide +kernel, by decide +kernel, by decide +kernel⟩
set_option maxRecDepth 100000 in
theorem wm_71 : WMth 71 := ⟨rfl, by decide +kernel, by decide +kernel, by decide +kernel, by decide +kernel, by decide +kernel, by decide +kernel, by decide +kernel⟩
theorem ws_71 : a_rc 71 ≠ 0 → (a_y 71).name ≠ "<init>" → (a_y 71).name ≠ "ordinal" → WSel 71 := fun _ _ _ => ⟨by decide +kernel, by decide +kernel, by decide +kernel⟩
set_option maxRecDepth 100000 in
theorem wm_72 : WMth 72 := ⟨rfl, by decide +kernel, by decide +kernel, by decide +kernel, by decide +kernel, by decide +kernel, by decide +kernel, by decide +kernel⟩
theorem ws_72 : a_rc 72 ≠ 0 → (a_y 72).name ≠ "<init>" → (a_y 72).name ≠ "ordinal" → WSel 72 := fun _ _ _ => ⟨by decide +kernel, by decide +kernel, by decide +kernel⟩
set_option maxRecDepth 100000 in
theorem wm_73 : WMth 73 := ⟨rfl, by decide +kernel, by decide +kernel, by decide +kernel, by decide +kernel, by decide +kernel, by decide +kernel, by decide +kernel⟩
theorem ws_73 : a_rc 73 ≠ 0 → (a_y 73).name ≠ "<init>" → (a_y 73).name ≠ "ordinal" → WSel 73 := fun _ _ _ => ⟨by decide +kernel, by decide +kernel, by decide +kernel⟩
set_option maxRecDepth 100000 in
theorem wm_74 : WMth 74 := ⟨rfl, by decide +kernel, by decide +kernel, by decide +kernel, by decide +kernel, by decide +kernel, by decide +kernel, by decide +kernel⟩
theorem ws_74 : a_rc 74 ≠ 0 → (a_y 74).name ≠ "<init>" → (a_y 74).name ≠ "ordinal" → WSel 74 := fun _ _ _ => ⟨by decide +kernel, by decide +kernel, by decide +kernel⟩
set_option maxRecDepth 100000 in
theorem wm_75 : WMth 75 := ⟨rfl, by decide +kernel, by decide +kernel, by decide +kernel, by decide +kernel, by decide +kernel, by decide +kernel, by decide +kernel⟩
theorem ws_75 : a_rc 75 ≠ 0 → (a_y 75).name ≠ "<init>" → (a_y 75).name ≠ "ordinal" → WSel 75 := fun _ _ _ => ⟨by decide +kernel, by decide +kernel, by decide +kernel⟩
set_option maxRecDepth 100000 in
theorem wm_76 : WMth 76 := ⟨rfl, by decide +kernel, by decide +kernel, by decide +kernel, by decide +kernel, by decide +kernel, by decide +kernel, by decide +kernel⟩
theorem ws_76 : a_rc 76 ≠ 0 → (a_y 76).name ≠ "<init>" → (a_y 76).name ≠ "ordinal" → WSel 76 := fun _ _ _ => ⟨by decide +kernel, by decide +kernel, by decide +kernel⟩
set_option maxRecDepth 100000 in
theorem wm_77 : WMth 77 := ⟨rfl, by decide +kernel, by decide +kernel, by decide +kernel, by decide +kernel, by decide +kernel, by decide +kernel, by decide +kernel⟩
theorem ws_77 : a_rc 77 ≠ 0 → (a_y 77).name ≠ "<init>" → (a_y 77).name ≠ "ordinal" → WSel 77 := fun _ _ _ => ⟨by decide +kernel, by decide +kernel, by decide +kernel⟩
set_option maxRecDepth 100000 in
theorem wm_78 : WMth 78 := ⟨rfl, by decide +kernel, by decide +kernel, by decide +kernel, by decide +kernel, by decide +kernel, by decide +kernel, by decide +kernel⟩
theorem ws_78 : a_rc 78 ≠ 0 → (a_y 78).name ≠ "<init>" → (a_y 78).name ≠ "ordinal" → WSel 78 := fun _ _ _ => ⟨by decide +kernel, by decide +kernel, by decide +kernel⟩
set_option maxRecDepth 100000 in
theorem wm_79 : WMth 79 := ⟨rfl, by decide +kernel, by decide +kernel, by decide +kernel, by decide +kernel, by decide +kernel, by decide +kernel, by decide +kernel⟩
theorem ws_79 : a_rc 79 ≠ 0 → (a_y 79).name ≠ "<init>" → (a_y 79).name ≠ "ordinal" → WSel 79 := fun _ h _ => absurd (by decide +kernel) h
theorem wmc_60 : ∀ k, k < 20 → WMth (60 + k) ∧ (a_rc (60 + k) ≠ 0 → (a_y (60 + k)).name ≠ "<init>" → (a_y (60 + k)).name ≠ "ordinal" → WSel (60 + k)) := by
  intro k hk
  rcases (show k = 0 ∨ k = 1 ∨ k = 2 ∨ k = 3 ∨ k = 4 ∨ k = 5 ∨ k = 6 ∨ k = 7 ∨ k = 8 ∨ k = 9 ∨ k = 10 ∨ k = 11 ∨ k = 12 ∨ k = 13 ∨ k = 14 ∨ k = 15 ∨ k = 16 ∨ k = 17 ∨ k = 18 ∨ k = 19 by omega) with h | h | h | h | h | h | h | h | h | h | h | h | h | h | h | h | h | h | h | h <;> subst h
  · exact ⟨wm_60, ws_60⟩
  · exact ⟨wm_61, ws_61⟩
  · exact ⟨wm_62, ws_62⟩
  · exact ⟨wm_63, ws_63⟩
  · exact ⟨wm_64, ws_64⟩
  · exact ⟨wm_65, ws_65⟩
  · exact ⟨wm_66, ws_66⟩
  · exact ⟨wm_67, ws_67⟩
  · exact ⟨wm_68, ws_68⟩
  · exact ⟨wm_69, ws_69⟩
  · exact ⟨wm_70, ws_70⟩
  · exact ⟨wm_71, ws_71⟩
  · exact ⟨wm_72, ws_72⟩
  · exact ⟨wm_73, ws_73⟩
  · exact ⟨wm_74, ws_74⟩
  · exact ⟨wm_75, ws_75⟩
  · exact ⟨wm_76, ws_76⟩
  · exact ⟨wm_77, ws_77⟩
  · exact ⟨wm_78, ws_78⟩
  · exact ⟨wm_79, ws_79⟩
set_option maxRecDepth 100000 in
theorem wm_80 : WMth 80 := ⟨rfl, by decide +kernel, by decide +kernel, by decide +kernel, by decide +kernel, by decide +kernel, by decide +kernel, by decide +kernel⟩
theorem ws_80 : a_rc 80 ≠ 0 → (a_y 80).name ≠ "<init>" → (a_y 80).name ≠ "ordinal" → WSel 80 := fun _ _ _ => ⟨by decide +kernel, by decide +kernel, by decide +kernel⟩
set_option maxRecDepth 100000 in
theorem wm_81 : WMth 81 := ⟨rfl, by decide +kernel, by decide +kernel, by decide +kernel, by decide +kernel, by decide +kernel, by decide +kernel, by decide +kernel⟩
theorem ws_81 : a_rc 81 ≠ 0 → (a_y 81).name ≠ "<init>" → (a_y 81).name ≠ "ordinal" → WSel 81 := fun _ _ _ => ⟨by decide +kernel, by decide +kernel, by decide +kernel⟩
set_option maxRecDepth 100000 in
theorem wm_82 : WMth 82 := ⟨rfl, by decide +kernel, by decide +kernel, by decide +kernel, by decide +kernel, by decide +kernel, by decide +kernel, by decide +kernel⟩
theorem ws_82 : a_rc 82 ≠ 0 → (a_y 82).name ≠ "<init>" → (a_y 82).name ≠ "ordinal" → WSel 82 := fun h _ _ => absurd (by decide +kernel) h
set_option maxRecDepth 100000 in
theorem wm_83 : WMth 83 := ⟨rfl, by decide +kernel, by decide +kernel, by decide +kernel, by decide +kernel, by decide +kernel, by decide +kernel, by decide +kernel⟩
theorem ws_83 : a_rc 83 ≠ 0 → (a_y 83).name ≠ "<init>" → (a_y 83).name ≠ "ordinal" → WSel 83 := fun _ _ _ => ⟨by decide +kernel, by decide +kernel, by decide +kernel⟩
set_option maxRecDepth 100000 in
theorem wm_84 : WMth 84 := ⟨rfl, by decide +kernel, by decide +kernel, by decide +kernel, by decide +kernel, by decide +kernel, by decide +kernel, by decide +kernel⟩
theorem ws_84 : a_rc 84 ≠ 0 → (a_y 84).name ≠ "<init>" → (a_y 84).name ≠ "ordinal" → WSel 84 := fun _ _ _ => ⟨by decide +kernel, by decide +kernel, by decide +kernel⟩
set_option maxRecDepth 100000 in
theorem wm_85 : WMth 85 := ⟨rfl, by decide +kernel, by decide +kernel, by decide +kernel, by decide +kernel, by decide +kernel, by decide +kernel, by decide +kernel⟩
theorem ws_85 : a_rc 85 ≠ 0 → (a_y 85).name ≠ "<init>" → (a_y 85).name ≠ "ordinal" → WSel 85 := fun _ _ _ => ⟨by decide +kernel, by decide +kernel, by decide +kernel⟩
set_option maxRecDepth 100000 in
theorem wm_86 : WMth 86 := ⟨rfl, by decide +kernel, by decide +kernel, by decide +kernel, by decide +kernel, by decide +kernel, by decide +kernel, by decide +kernel⟩
theorem ws_86 : a_rc 86 ≠ 0 → (a_y 86).name ≠ "<init>" → (a_y 86).name ≠ "ordinal" → WSel 86 := fun _ _ _ => ⟨by decide +kernel, by decide +kernel, by decide +kernel⟩
set_option maxRecDepth 100000 in
theorem wm_87 : WMth 87 := ⟨rfl, by decide +kernel, by decide +kernel, by decide +kernel, by decide +kernel, by decide +kernel, by decide +kernel, by decide +kernel⟩
theorem ws_87 : a_rc 87 ≠ 0 → (a_y 87).name ≠ "<init>" → (a_y 87).name ≠ "ordinal" → WSel 87 := fun _ _ _ => ⟨by decide +kernel, by decide +kernel, by decide +kernel⟩
set_option maxRecDepth 100000 in
theorem wm_88 : WMth 88 := ⟨rfl, by decide +kernel, by decide +kernel, by decide +kernel, by decide +kernel, by decide +kernel, by decide +kernel, by decide +kernel⟩
theorem ws_88 : a_rc 88 ≠ 0 → (a_y 88).name ≠ "<init>" → (a_y 88).name ≠ "ordinal" → WSel 88 := fun _ _ _ => ⟨by decide +kernel, by decide +kernel, by decide +kernel⟩
set_option maxRecDepth 100000 in
theorem wm_89 : WMth 89 := ⟨rfl, by decide +kernel, by decide +kernel, by decide +kernel, by decide +kernel, by decide +kernel, by decide +kernel, by decide +kernel⟩
theorem ws_89 : a_rc 89 ≠ 0 → (a_y 89).name ≠ "<init>" → (a_y 89).name ≠ "ordinal" → WSel 89 := fun _ h _ => absurd (by decide +kernel) h
set_option maxRecDepth 100000 in
theorem wm_90 : WMth 90 := ⟨rfl, by decide +kernel, by decide +kernel, by decide +kernel, by decide +kernel, by decide +kernel, by decide +kernel, by decide +kernel⟩
theorem ws_90 : a_rc 90 ≠ 0 → (a_y 90).name ≠ "<init>" → (a_y 90).name ≠ "ordinal" → WSel 90 := fun _ _ _ => ⟨by decide +kernel, by decide +kernel, by decide +kernel⟩
set_option maxRecDepth 100000 in
theorem wm_91 : WMth 91 := ⟨rfl, by decide +kernel, by decide +kernel, by decide +kernel, by decide +kernel, by decide +kernel, by decide +kernel, by decide +kernel⟩
theorem ws_91 : a_rc 91 ≠ 0 → (a_y 91).name ≠ "<init>" → (a_y 91).name ≠ "ordinal" → WSel 91 := fun h _ _ => absurd (by decide +kernel) h
set_option maxRecDepth 100000 in
theorem wm_92 : WMth 92 := ⟨rfl, by decide +kernel, by decide +kernel, by decide +kernel, by decide +kernel, by decide +kernel, by decide +kernel, by decide +kernel⟩
theorem ws_92 : a_rc 92 ≠ 0 → (a_y 92).name ≠ "<init>" → (a_y 92).name ≠ "ordinal" → WSel 92 := fun _ _ _ => ⟨by decide +kernel, by decide +kernel, by decide +kernel⟩
set_option maxRecDepth 100000 in
theorem wm_93 : WMth 93 := ⟨rfl, by decide +kernel, by decide +kernel, by decide +kernel, by decide +kernel, by decide +kernel, by decide +kernel, by decide +kernel⟩
theorem ws_93 : a_rc 93 ≠ 0 → (a_y 93).name ≠ "<init>" → (a_y 93).name ≠ "ordinal" → WSel 93 := fun _ _ _ => ⟨by decide +kernel, by decide +kernel, by decide +kernel⟩
set_option maxRecDepth 100000 in
theorem wm_94 : WMth 94 := ⟨rfl, by decide +kernel, by decide +kernel, by decide +kernel, by decide +kernel, by decide +kernel, by decide +kernel, by decide +kernel⟩
theorem ws_94 : a_rc 94 ≠ 0 → (a_y 94).name ≠ "<init>" → (a_y 94).name ≠ "ordinal" → WSel 94 := fun _ _ _ => ⟨by decide +kernel, by decide +kernel, by decide +kernel⟩
set_option maxRecDepth 100000 in
theorem wm_95 : WMth 95 := ⟨rfl, by decide +kernel, by decide +kernel, by decide +kernel, by decide +kernel, by decide +kernel, by decide +kernel, by decide +kernel⟩
theorem ws_95 : a_rc 95 ≠ 0 → (a_y 95).name ≠ "<init>" → (a_y 95).name ≠ "ordinal" → WSel 95 := fun _ _ _ => ⟨by decide +kernel, by decide +kernel, by decide +kernel⟩
set_option maxRecDepth 100000 in
theorem wm_96 : WMth 96 := ⟨rfl, by decide +kernel, by decide +kernel, by decide +kernel, by decide +kernel, by decide +kernel, by decide +kernel, by decide +kernel⟩
theorem ws_96 : a_rc 96 ≠ 0 → (a_y 96).name ≠ "<init>" → (a_y 96).name ≠ "ordinal" → WSel 96 := fun _ _ _ => ⟨by decide +kernel, by decide +kernel, by decide +kernel⟩
set_option maxRecDepth 100000 in
theorem wm_97 : WMth 97 := ⟨rfl, by decide +kernel, by decide +kernel, by decide +kernel, by decide +kernel, by decide +kernel, by decide +kernel, by decide +kernel⟩
theorem ws_97 : a_rc 97 ≠ 0 → (a_y 97).name ≠ "<init>" → (a_y 97).name ≠ "ordinal" → WSel 97 := fun h _ _ => absurd (by decide +kernel) h
set_option maxRecDepth 100000 in
theorem wm_98 : WMth 98 := ⟨rfl, by decide +kernel, by decide +kernel, by decide +kernel, by decide +kernel, by decide +kernel, by decide +kernel, by decide +kernel⟩
theorem ws_98 : a_rc 98 ≠ 0 → (a_y 98).name ≠ "<init>" → (a_y 98).name ≠ "ordinal" → WSel 98 := fun h _ _ => absurd (by decide +kernel) h
set_option maxRecDepth 100000 in
theorem wm_99 : WMth 99 := ⟨rfl, by decide +kernel, by decide +kernel, by decide +kernel, by decide +kernel, by decide +kernel, by decide +kernel, by decide +kernel⟩
theorem ws_99 : a_rc 99 ≠ 0 → (a_y 99).name ≠ "<init>" → (a_y 99).name ≠ "ordinal" → WSel 99 := fun h _ _ => absurd (by decide +kernel) h
theorem wmc_80 : ∀ k, k < 20 → WMth (80 + k) ∧ (a_rc (80 + k) ≠ 0 → (a_y (80 + k)).name ≠ "<init>" → (a_y (80 + k)).name ≠ "ordinal" → WSel (80 + k)) := by
  intro k hk
  rcases (show k = 0 ∨ k = 1 ∨ k = 2 ∨ k = 3 ∨ k = 4 ∨ k = 5 ∨ k = 6 ∨ k = 7 ∨ k = 8 ∨ k = 9 ∨ k = 10 ∨ k = 11 ∨ k = 12 ∨ k = 13 ∨ k = 14 ∨ k = 15 ∨ k = 16 ∨ k = 17 ∨ k = 18 ∨ k = 19 by omega) with h | h | h | h | h | h | h | h | h | h | h | h | h | h | h | h | h | h | h | h <;> subst h
  · exact ⟨wm_80, ws_80⟩
  · exact ⟨wm_81, ws_81⟩
  · exact ⟨wm_82, ws_82⟩
  · exact ⟨wm_83, ws_83⟩
  · exact ⟨wm_84, ws_84⟩
  · exact ⟨wm_85, ws_85⟩
  · exact ⟨wm_86, ws_86⟩
  · exact ⟨wm_87, ws_87⟩
  · exact ⟨wm_88, ws_88⟩
  · exact ⟨wm_89, ws_89⟩
  · exact ⟨wm_90, ws_90⟩
  · exact ⟨wm_91, ws_91⟩
  · exact ⟨wm_92, ws_92⟩
  · exact ⟨wm_93, ws_93⟩
  · exact ⟨wm_94, ws_94⟩
  · exact ⟨wm_95, ws_95⟩
  · exact ⟨wm_96, ws_96⟩
  · exact ⟨wm_97, ws_97⟩
  · exact ⟨wm_98, ws_98⟩
  · exact ⟨wm_99, ws_99⟩
set_option maxRecDepth 100000 in
theorem wm_100 : WMth 100 := ⟨rfl, by decide +kernel, by decide +kernel, by decide +kernel, by decide +kernel, by decide +kernel, by decide +kernel, by decide +kernel⟩
theorem ws_100 : a_rc 100 ≠ 0 → (a_y 100).name ≠ "<init>" → (a_y 100).name ≠ "ordinal" → WSel 100 := fun h _ _ => absurd (by decide +kernel) h
set_option maxRecDepth 100000 in
theorem wm_101 : WMth 101 := ⟨rfl, by decide +kernel, by decide +kernel, by decide +kernel, by decide +kernel, by decide +kernel, by decide +kernel, by decide +kernel⟩
theorem ws_101 : a_rc 101 ≠ 0 → (a_y 101).name ≠ "<init>" → (a_y 101).name ≠ "ordinal" → WSel 101 := fun h _ _ => absurd (by decide +kernel) h
set_option maxRecDepth 100000 in
theorem wm_102 : WMth 102 := ⟨rfl, by decide +kernel, by decide +kernel, by decide +kernel, by decide +kernel, by decide +kernel, by decide +kernel, by decide +kernel⟩
theorem ws_102 : a_rc 102 ≠ 0 → (a_y 102).name ≠ "<init>" → (a_y 102).name ≠ "ordinal" → WSel 102 := fun h _ _ => absurd (by decide +kernel) h
set_option maxRecDepth 100000 in
theorem wm_103 : WMth 103 := ⟨rfl, by decide +kernel, by decide +kernel, by decide +kernel, by decide +kernel, by decide +kernel, by decide +kernel, by decide +kernel⟩
theorem ws_103 : a_rc 103 ≠ 0 → (a_y 103).name ≠ "<init>" → (a_y 103).name ≠ "ordinal" → WSel 103 := fun h _ _ => absurd (by decide +kernel) h
set_option maxRecDepth 100000 in
theorem wm_104 : WMth 104 := ⟨rfl, by decide +kernel, by decide +kernel, by decide +kernel, by decide +kernel, by decide +kernel, by decide +kernel, by decide +kernel⟩
theorem ws_104 : a_rc 104 ≠ 0 → (a_y 104).name ≠ "<init>" → (a_y 104).name ≠ "ordinal" → WSel 104 := fun h _ _ => absurd (by decide +kernel) h
set_option maxRecDepth 100000 in
theorem wm_105 : WMth 105 := ⟨rfl, by decide +kernel, by decide +kernel, by decide +kernel, by decide +kernel, by decide +kernel, by decide +kernel, by decide +kernel⟩
theorem ws_105 : a_rc 105 ≠ 0 → (a_y 105).name ≠ "<init>" → (a_y 105).name ≠ "ordinal" → WSel 105 := fun _ _ _ => ⟨by decide +kernel, by decide +kernel, by decide +kernel⟩
set_option maxRecDepth 100000 in
theorem wm_106 : WMth 106 := ⟨rfl, by decide +kernel, by decide +kernel, by decide +kernel, by decide +kernel, by decide +kernel, by decide +kernel, by decide +kernel⟩
theorem ws_106 : a_rc 106 ≠ 0 → (a_y 106).name ≠ "<init>" → (a_y 106).name ≠ "ordinal" → WSel 106 := fun _ _ _ => ⟨by decide +kernel, by decide +kernel, by decide +kernel⟩
set_option maxRecDepth 100000 in
theorem wm_107 : WMth 107 := ⟨rfl, by decide +kernel, by decide +kernel, by decide +kernel, by decide +kernel, by decide +kernel, by decide +kernel, by decide +kernel⟩
theorem ws_107 : a_rc 107 ≠ 0 → (a_y 107).name ≠ "<init>" → (a_y 107).name ≠ "ordinal" → WSel 107 := fun _ _ _ => ⟨by decide +kernel, by decide +kernel, by decide +kernel⟩
set_option maxRecDepth 100000 in
theorem wm_108 : WMth 108 := ⟨rfl, by decide +kernel, by decide +kernel, by decide +kernel, by decide +kernel, by decide +kernel, by decide +kernel, by decide +kernel⟩
theorem ws_108 : a_rc 108 ≠ 0 → (a_y 108).name ≠ "<init>" → (a_y 108).name ≠ "ordinal" → WSel 108 := fun h _ _ => absurd (by decide +kernel) h
set_option maxRecDepth 100000 in
theorem wm_109 : WMth 109 := ⟨rfl, by decide +kernel, by decide +kernel, by decide +kernel, by decide +kernel, by decide +kernel, by decide +kernel, by decide +kernel⟩
theorem ws_109 : a_rc 109 ≠ 0 → (a_y 109).name ≠ "<init>" → (a_y 109).name ≠ "ordinal" → WSel 109 := fun _ _ _ => ⟨by decide +kernel, by decide +kernel, by decide +kernel⟩
set_option maxRecDepth 100000 in
theorem wm_110 : WMth 110 := ⟨rfl, by decide +kernel, by decide +kernel, by decide +kernel, by decide +kernel, by decide +kernel, by decide +kernel, by decide +kernel⟩
theorem ws_110 : a_rc 110 ≠ 0 → (a_y 110).name ≠ "<init>" → (a_y 110).name ≠ "ordinal" → WSel 110 := fun _ h _ => absurd (by decide +kernel) h
set_option maxRecDepth 100000 in
theorem wm_111 : WMth 111 := ⟨rfl, by decide +kernel, by decide +kernel, by decide +kernel, by decide +kernel, by decide +kernel, by decide +kernel, by decide +kernel⟩
theorem ws_111 : a_rc 111 ≠ 0 → (a_y 111).name ≠ "<init>" → (a_y 111).name ≠ "ordinal" → WSel 111 := fun _ _ _ => ⟨by decide +kernel, by decide +kernel, by decide +kernel⟩
set_option maxRecDepth 100000 in
theorem wm_112 : WMth 112 := ⟨rfl, by decide +kernel, by decide +kernel, by decide +kernel, by decide +kernel, by decide +kernel, by decide +kernel, by decide +kernel⟩
theorem ws_112 : a_rc 112 ≠ 0 → (a_y 112).name ≠ "<init>" → (a_y 112).name ≠ "ordinal" → WSel 112 := fun _ _ _ => ⟨by decide +kernel, by decide +kernel, by decide +kernel⟩
set_option maxRecDepth 100000 in
theorem wm_113 : WMth 113 := ⟨rfl, by decide +kernel, by decide +kernel, by decide +kernel, by decide +kernel, by decide +kernel, by decide +kernel, by decide +kernel⟩
theorem ws_113 : a_rc 113 ≠ 0 → (a_y 113).name ≠ "<init>" → (a_y 113).name ≠ "ordinal" → WSel 113 := fun _ _ _ => ⟨by decide +kernel, by decide +kernel, by decide +kernel⟩
set_option maxRecDepth 100000 in
theorem wm_114 : WMth 114 := ⟨rfl, by decide +kernel, by decide +kernel, by decide +kernel, by decide +kernel, by decide +kernel, by decide +kernel, by decide +kernel⟩
theorem ws_114 : a_rc 114 ≠ 0 → (a_y 114).name ≠ "<init>" → (a_y 114).name ≠ "ordinal" → WSel 114 := fun _ _ _ => ⟨by decide +kernel, by decide +kernel, by decide +kernel⟩
set_option maxRecDepth 100000 in
theorem wm_115 : WMth 115 := ⟨rfl, by decide +kernel, by decide +kernel, by decide +kernel, by decide +kernel, by decide +kernel, by decide +kernel, by decide +kernel⟩
theorem ws_115 : a_rc 115 ≠ 0 → (a_y 115).name ≠ "<init>" → (a_y 115).name ≠ "ordinal" → WSel 115 := fun _ _ _ => ⟨by decide +kernel, by decide +kernel, by decide +kernel⟩
set_option maxRecDepth 100000 in
theorem wm_116 : WMth 116 := ⟨rfl, by decide +kernel, by decide +kernel, by decide +kernel, by decide +kernel, by decide +kernel, by decide +kernel, by decide +kernel⟩
theorem ws_116 : a_rc 116 ≠ 0 → (a_y 116).name ≠ "<init>" → (a_y 116).name ≠ "ordinal" → WSel 116 := fun _ _ _ => ⟨by decide +kernel, by decide +kernel, by decide +kernel⟩
set_option maxRecDepth 100000 in
theorem wm_117 : WMth 117 := ⟨rfl, by decide +kernel, by decide +kernel, by decide +kernel, by decide +kernel, by decide +kernel, by decide +kernel, by decide +kernel⟩
theorem ws_117 : a_rc 117 ≠ 0 → (a_y 117).name ≠ "<init>" → (a_y 117).name ≠ "ordinal" → WSel 117 := fun _ _ _ => ⟨by decide +kernel, by decide +kernel, by decide +kernel⟩
set_option maxRecDepth 100000 in
theorem wm_118 : WMth 118 := ⟨rfl, by decide +kernel, by decide +kernel, by decide +kernel, by decide +kernel, by decide +kernel, by decide +kernel, by decide +kernel⟩
theorem ws_118 : a_rc 118 ≠ 0 → (a_y 118).name ≠ "<init>" → (a_y 118).name ≠ "ordinal" → WSel 118 := fun _ _ _ => ⟨by decide +kernel, by decide +kernel, by decide +kernel⟩
set_option maxRecDepth 100000 in
theorem wm_119 : WMth 119 := ⟨rfl, by decide +kernel, by decide +kernel, by decide +kernel, by decide +kernel, by decide +kernel, by decide +kernel, by decide +kernel⟩
theorem ws_119 : a_rc 119 ≠ 0 → (a_y 119).name ≠ "<init>" → (a_y 119).name ≠ "ordinal" → WSel 119 := fun _ _ _ => ⟨by decide +kernel, by decide +kernel, by decide +kernel⟩
theorem wmc_100 : ∀ k, k < 20 → WMth (100 + k) ∧ (a_rc (100 + k) ≠ 0 → (a_y (100 + k)).name ≠ "<init>" → (a_y (100 + k)).name ≠ "ordinal" → WSel (100 + k)) := by
  intro k hk
  rcases (show k = 0 ∨ k = 1 ∨ k = 2 ∨ k = 3 ∨ k = 4 ∨ k = 5 ∨ k = 6 ∨ k = 7 ∨ k = 8 ∨ k = 9 ∨ k = 10 ∨ k = 11 ∨ k = 12 ∨ k = 13 ∨ k = 14 ∨ k = 15 ∨ k = 16 ∨ k = 17 ∨ k = 18 ∨ k = 19 by omega) with h | h | h | h | h | h | h | h | h | h | h | h | h | h | h | h | h | h | h | h <;> subst h
  · exact ⟨wm_100, ws_100⟩
  · exact ⟨wm_101, ws_101⟩
  · exact ⟨wm_102, ws_102⟩
  · exact ⟨wm_103, ws_103⟩
  · exact ⟨wm_104, ws_104⟩
  · exact ⟨wm_105, ws_105⟩
  · exact ⟨wm_106, ws_106⟩
  · exact ⟨wm_107, ws_107⟩
  · exact ⟨wm_108, ws_108⟩
  · exact ⟨wm_109, ws_109⟩
  · exact ⟨wm_110, ws_110⟩
  · exact ⟨wm_111, ws_111⟩
  · exact ⟨wm_112, ws_112⟩
  · exact ⟨wm_113, ws_113⟩
  · exact ⟨wm_114, ws_114⟩
  · exact ⟨wm_115, ws_115⟩
  · exact ⟨wm_116, ws_116⟩
  · exact ⟨wm_117, ws_117⟩
  · exact ⟨wm_118, ws_118⟩
  · exact ⟨wm_119, ws_119⟩
