/-! The methods' words: by the kernel -/
set_option maxRecDepth 100000 in
theorem wm_120 : WMth 120 := ⟨rfl, by decide +kernel, by decide +kernel, by decide +kernel, by decide +kernel, by decide +kernel, by decide +kernel, by decide +kernel⟩
theorem ws_120 : a_rc 120 ≠ 0 → (a_y 120).name ≠ "<init>" → (a_y 120).name ≠ "ordinal" → WSel 120 := fun _ _ _ => ⟨by decide +kernel, by decide +kernel, by decide +kernel⟩
set_option maxRecDepth 100000 in
theorem wm_121 : WMth 121 := ⟨rfl, by decide +kernel, by decide +kernel, by decide +kernel, by decide +kernel, by decide +kernel, by decide +kernel, by decide +kernel⟩
theorem ws_121 : a_rc 121 ≠ 0 → (a_y 121).name ≠ "<init>" → (a_y 121).name ≠ "ordinal" → WSel 121 := fun _ _ _ => ⟨by decide +kernel, by decide +kernel, by decide +kernel⟩
set_option maxRecDepth 100000 in
theorem wm_122 : WMth 122 := ⟨rfl, by decide +kernel, by decide +kernel, by decide +kernel, by decide +kernel, by decide +kernel, by decide +kernel, by decide +kernel⟩
theorem ws_122 : a_rc 122 ≠ 0 → (a_y 122).name ≠ "<init>" → (a_y 122).name ≠ "ordinal" → WSel 122 := fun _ _ _ => ⟨by decide +kernel, by decide +kernel, by decide +kernel⟩
set_option maxRecDepth 100000 in
theorem wm_123 : WMth 123 := ⟨rfl, by decide +kernel, by decide +kernel, by decide +kernel, by decide +kernel, by decide +kernel, by decide +kernel, by decide +kernel⟩
theorem ws_123 : a_rc 123 ≠ 0 → (a_y 123).name ≠ "<init>" → (a_y 123).name ≠ "ordinal" → WSel 123 := fun _ _ _ => ⟨by decide +kernel, by decide +kernel, by decide +kernel⟩
set_option maxRecDepth 100000 in
theorem wm_124 : WMth 124 := ⟨rfl, by decide +kernel, by decide +kernel, by decide +kernel, by decide +kernel, by decide +kernel, by decide +kernel, by decide +kernel⟩
theorem ws_124 : a_rc 124 ≠ 0 → (a_y 124).name ≠ "<init>" → (a_y 124).name ≠ "ordinal" → WSel 124 := fun h _ _ => absurd (by decide +kernel) h
set_option maxRecDepth 100000 in
theorem wm_125 : WMth 125 := ⟨rfl, by decide +kernel, by decide +kernel, by decide +kernel, by decide +kernel, by decide +kernel, by decide +kernel, by decide +kernel⟩
theorem ws_125 : a_rc 125 ≠ 0 → (a_y 125).name ≠ "<init>" → (a_y 125).name ≠ "ordinal" → WSel 125 := fun _ _ _ => ⟨by decide +kernel, by decide +kernel, by decide +kernel⟩
set_option maxRecDepth 100000 in
theorem wm_126 : WMth 126 := ⟨rfl, by decide +kernel, by decide +kernel, by decide +kernel, by decide +kernel, by decide +kernel, by decide +kernel, by decide +kernel⟩
theorem ws_126 : a_rc 126 ≠ 0 → (a_y 126).name ≠ "<init>" → (a_y 126).name ≠ "ordinal" → WSel 126 := fun _ _ _ => ⟨by decide +kernel, by decide +kernel, by decide +kernel⟩
set_option maxRecDepth 100000 in
theorem wm_127 : WMth 127 := ⟨rfl, by decide +kernel, by decide +kernel, by decide +kernel, by decide +kernel, by decide +kernel, by decide +kernel, by decide +kernel⟩
theorem ws_127 : a_rc 127 ≠ 0 → (a_y 127).name ≠ "<init>" → (a_y 127).name ≠ "ordinal" → WSel 127 := fun _ _ _ => ⟨by decide +kernel, by decide +kernel, by decide +kernel⟩
set_option maxRecDepth 100000 in
theorem wm_128 : WMth 128 := ⟨rfl, by decide +kernel, by decide +kernel, by decide +kernel, by decide +kernel, by decide +kernel, by decide +kernel, by decide +kernel⟩
theorem ws_128 : a_rc 128 ≠ 0 → (a_y 128).name ≠ "<init>" → (a_y 128).name ≠ "ordinal" → WSel 128 := fun _ _ _ => ⟨by decide +kernel, by decide +kernel, by decide +kernel⟩
set_option maxRecDepth 100000 in
theorem wm_129 : WMth 129 := ⟨rfl, by decide +kernel, by decide +kernel, by decide +kernel, by decide +kernel, by decide +kernel, by decide +kernel, by decide +kernel⟩
theorem ws_129 : a_rc 129 ≠ 0 → (a_y 129).name ≠ "<init>" → (a_y 129).name ≠ "ordinal" → WSel 129 := fun _ _ _ => ⟨by decide +kernel, by decide +kernel, by decide +kernel⟩
set_option maxRecDepth 100000 in
theorem wm_130 : WMth 130 := ⟨rfl, by decide +kernel, by decide +kernel, by decide +kernel, by decide +kernel, by decide +kernel, by decide +kernel, by decide +kernel⟩
theorem ws_130 : a_rc 130 ≠ 0 → (a_y 130).name ≠ "<init>" → (a_y 130).name ≠ "ordinal" → WSel 130 := fun h _ _ => absurd (by decide +kernel) h
set_option maxRecDepth 100000 in
theorem wm_131 : WMth 131 := ⟨rfl, by decide +kernel, by decide +kernel, by decide +kernel, by decide +kernel, by decide +kernel, by decide +kernel, by decide +kernel⟩
theorem ws_131 : a_rc 131 ≠ 0 → (a_y 131).name ≠ "<init>" → (a_y 131).name ≠ "ordinal" → WSel 131 := fun _ _ _ => ⟨by decide +kernel, by decide +kernel, by decide +kernel⟩
set_option maxRecDepth 100000 in
theorem wm_132 : WMth 132 := ⟨rfl, by decide +kernel, by decide +kernel, by decide +kernel, by decide +kernel, by decide +kernel, by decide +kernel, by decide +kernel⟩
theorem ws_132 : a_rc 132 ≠ 0 → (a_y 132).name ≠ "<init>" → (a_y 132).name ≠ "ordinal" → WSel 132 := fun _ h _ => absurd (by decide +kernel) h
set_option maxRecDepth 100000 in
theorem wm_133 : WMth 133 := ⟨rfl, by decide +kernel, by decide +kernel, by decide +kernel, by decide +kernel, by decide +kernel, by decide +kernel, by decide +kernel⟩
theorem ws_133 : a_rc 133 ≠ 0 → (a_y 133).name ≠ "<init>" → (a_y 133).name ≠ "ordinal" → WSel 133 := fun _ _ _ => ⟨by decide +kernel, by decide +kernel, by decide +kernel⟩
set_option maxRecDepth 100000 in
theorem wm_134 : WMth 134 := ⟨rfl, by decide +kernel, by decide +kernel, by decide +kernel, by decide +kernel, by decide +kernel, by decide +kernel, by decide +kernel⟩
theorem ws_134 : a_rc 134 ≠ 0 → (a_y 134).name ≠ "<init>" → (a_y 134).name ≠ "ordinal" → WSel 134 := fun _ _ _ => ⟨by decide +kernel, by decide +kernel, by decide +kernel⟩
set_option maxRecDepth 100000 in
theorem wm_135 : WMth 135 := ⟨rfl, by decide +kernel, by decide +kernel, by decide +kernel, by decide +kernel, by decide +kernel, by decide +kernel, by decide +kernel⟩
theorem ws_135 : a_rc 135 ≠ 0 → (a_y 135).name ≠ "<init>" → (a_y 135).name ≠ "ordinal" → WSel 135 := fun _ _ _ => ⟨by decide +kernel, by decide +kernel, by decide +kernel⟩
set_option maxRecDepth 100000 in
theorem wm_136 : WMth 136 := ⟨rfl, by decide +kernel, by decide +kernel, by decide +kernel, by decide +kernel, by decide +kernel, by decide +kernel, by decide +kernel⟩
theorem ws_136 : a_rc 136 ≠ 0 → (a_y 136).name ≠ "<init>" → (a_y 136).name ≠ "ordinal" → WSel 136 := fun _ _ _ => ⟨by decide +kernel, by decide +kernel, by decide +kernel⟩
set_option maxRecDepth 100000 in
theorem wm_137 : WMth 137 := ⟨rfl, by decide +kernel, by decide +kernel, by decide +kernel, by decide +kernel, by decide +kernel, by decide +kernel, by decide +kernel⟩
theorem ws_137 : a_rc 137 ≠ 0 → (a_y 137).name ≠ "<init>" → (a_y 137).name ≠ "ordinal" → WSel 137 := fun h _ _ => absurd (by decide +kernel) h
set_option maxRecDepth 100000 in
theorem wm_138 : WMth 138 := ⟨rfl, by decide +kernel, by decide +kernel, by decide +kernel, by decide +kernel, by decide +kernel, by decide +kernel, by decide +kernel⟩
theorem ws_138 : a_rc 138 ≠ 0 → (a_y 138).name ≠ "<init>" → (a_y 138).name ≠ "ordinal" → WSel 138 := fun h _ _ => absurd (by decide +kernel) h
set_option maxRecDepth 100000 in
theorem wm_139 : WMth 139 := ⟨rfl, by decide +kernel, by decide +kernel, by decide +kernel, by decide +kernel, by decide +kernel, by decide +kernel, by decide +kernel⟩
theorem ws_139 : a_rc 139 ≠ 0 → (a_y 139).name ≠ "<init>" → (a_y 139).name ≠ "ordinal" → WSel 139 := fun _ _ _ => ⟨by decide +kernel, by decide +kernel, by decide +kernel⟩
theorem wmc_120 : ∀ k, k < 20 → WMth (120 + k) ∧ (a_rc (120 + k) ≠ 0 → (a_y (120 + k)).name ≠ "<init>" → (a_y (120 + k)).name ≠ "ordinal" → WSel (120 + k)) := by
  intro k hk
  rcases (show k = 0 ∨ k = 1 ∨ k = 2 ∨ k = 3 ∨ k = 4 ∨ k = 5 ∨ k = 6 ∨ k = 7 ∨ k = 8 ∨ k = 9 ∨ k = 10 ∨ k = 11 ∨ k = 12 ∨ k = 13 ∨ k = 14 ∨ k = 15 ∨ k = 16 ∨ k = 17 ∨ k = 18 ∨ k = 19 by omega) with h | h | h | h | h | h | h | h | h | h | h | h | h | h | h | h | h | h | h | h <;> subst h
  · exact ⟨wm_120, ws_120⟩
  · exact ⟨wm_121, ws_121⟩
  · exact ⟨wm_122, ws_122⟩
  · exact ⟨wm_123, ws_123⟩
  · exact ⟨wm_124, ws_124⟩
  · exact ⟨wm_125, ws_125⟩
  · exact ⟨wm_126, ws_126⟩
  · exact ⟨wm_127, ws_127⟩
  · exact ⟨wm_128, ws_128⟩
  · exact ⟨wm_129, ws_129⟩
  · exact ⟨wm_130, ws_130⟩
  · exact ⟨wm_131, ws_131⟩
  · exact ⟨wm_132, ws_132⟩
  · exact ⟨wm_133, ws_133⟩
  · exact ⟨wm_134, ws_134⟩
  · exact ⟨wm_135, ws_135⟩
  · exact ⟨wm_136, ws_136⟩
  · exact ⟨wm_137, ws_137⟩
  · exact ⟨wm_138, ws_138⟩
  · exact ⟨wm_139, ws_139⟩
set_option maxRecDepth 100000 in
theorem wm_140 : WMth 140 := ⟨rfl, by decide +kernel, by decide +kernel, by decide +kernel, by decide +kernel, by decide +kernel, by decide +kernel, by decide +kernel⟩
theorem ws_140 : a_rc 140 ≠ 0 → (a_y 140).name ≠ "<init>" → (a_y 140).name ≠ "ordinal" → WSel 140 := fun _ _ _ => ⟨by decide +kernel, by decide +kernel, by decide +kernel⟩
set_option maxRecDepth 100000 in
theorem wm_141 : WMth 141 := ⟨rfl, by decide +kernel, by decide +kernel, by decide +kernel, by decide +kernel, by decide +kernel, by decide +kernel, by decide +kernel⟩
theorem ws_141 : a_rc 141 ≠ 0 → (a_y 141).name ≠ "<init>" → (a_y 141).name ≠ "ordinal" → WSel 141 := fun _ _ _ => ⟨by decide +kernel, by decide +kernel, by decide +kernel⟩
set_option maxRecDepth 100000 in
theorem wm_142 : WMth 142 := ⟨rfl, by decide +kernel, by decide +kernel, by decide +kernel, by decide +kernel, by decide +kernel, by decide +kernel, by decide +kernel⟩
theorem ws_142 : a_rc 142 ≠ 0 → (a_y 142).name ≠ "<init>" → (a_y 142).name ≠ "ordinal" → WSel 142 := fun _ _ _ => ⟨by decide +kernel, by decide +kernel, by decide +kernel⟩
set_option maxRecDepth 100000 in
theorem wm_143 : WMth 143 := ⟨rfl, by decide +kernel, by decide +kernel, by decide +kernel, by decide +kernel, by decide +kernel, by decide +kernel, by decide +kernel⟩
theorem ws_143 : a_rc 143 ≠ 0 → (a_y 143).name ≠ "<init>" → (a_y 143).name ≠ "ordinal" → WSel 143 := fun _ _ _ => ⟨by decide +kernel, by decide +kernel, by decide +kernel⟩
set_option maxRecDepth 100000 in
theorem wm_144 : WMth 144 := ⟨rfl, by decide +kernel, by decide +kernel, by decide +kernel, by decide +kernel, by decide +kernel, by decide +kernel, by decide +kernel⟩
theorem ws_144 : a_rc 144 ≠ 0 → (a_y 144).name ≠ "<init>" → (a_y 144).name ≠ "ordinal" → WSel 144 := fun _ _ _ => ⟨by decide +kernel, by decide +kernel, by decide +kernel⟩
set_option maxRecDepth 100000 in
theorem wm_145 : WMth 145 := ⟨rfl, by decide +kernel, by decide +kernel, by decide +kernel, by decide +kernel, by decide +kernel, by decide +kernel, by decide +kernel⟩
theorem ws_145 : a_rc 145 ≠ 0 → (a_y 145).name ≠ "<init>" → (a_y 145).name ≠ "ordinal" → WSel 145 := fun h _ _ => absurd (by decide +kernel) h
set_option maxRecDepth 100000 in
theorem wm_146 : WMth 146 := ⟨rfl, by decide +kernel, by decide +kernel, by decide +kernel, by decide +kernel, by decide +kernel, by decide +kernel, by decide +kernel⟩
theorem ws_146 : a_rc 146 ≠ 0 → (a_y 146).name ≠ "<init>" → (a_y 146).name ≠ "ordinal" → WSel 146 := fun h _ _ => absurd (by decide +kernel) h
set_option maxRecDepth 100000 in
theorem wm_147 : WMth 147 := ⟨rfl, by decide +kernel, by decide +kernel, by decide +kernel, by decide +kernel, by decide +kernel, by decide +kernel, by decide +kernel⟩
theorem ws_147 : a_rc 147 ≠ 0 → (a_y 147).name ≠ "<init>" → (a_y 147).name ≠ "ordinal" → WSel 147 := fun _ _ _ => ⟨by decide +kernel, by decide +kernel, by decide +kernel⟩
set_option maxRecDepth 100000 in
theorem wm_148 : WMth 148 := ⟨rfl, by decide +kernel, by decide +kernel, by decide +kernel, by decide +kernel, by decide +kernel, by decide +kernel, by decide +kernel⟩
theorem ws_148 : a_rc 148 ≠ 0 → (a_y 148).name ≠ "<init>" → (a_y 148).name ≠ "ordinal" → WSel 148 := fun _ _ _ => ⟨by decide +kernel, by decide +kernel, by decide +kernel⟩
set_option maxRecDepth 100000 in
theorem wm_149 : WMth 149 := ⟨rfl, by decide +kernel, by decide +kernel, by decide +kernel, by decide +kernel, by decide +kernel, by decide +kernel, by decide +kernel⟩
theorem ws_149 : a_rc 149 ≠ 0 → (a_y 149).name ≠ "<init>" → (a_y 149).name ≠ "ordinal" → WSel 149 := fun _ _ _ => ⟨by decide +kernel, by decide +kernel, by decide +kernel⟩
set_option maxRecDepth 100000 in
theorem wm_150 : WMth 150 := ⟨rfl, by decide +kernel, by decide +kernel, by decide +kernel, by decide +kernel, by decide +kernel, by decide +kernel, by decide +kernel⟩
theorem ws_150 : a_rc 150 ≠ 0 → (a_y 150).name ≠ "<init>" → (a_y 150).name ≠ "ordinal" → WSel 150 := fun h _ _ => absurd (by decide +kernel) h
set_option maxRecDepth 100000 in
theorem wm_151 : WMth 151 := ⟨rfl, by decide +kernel, by decide +kernel, by decide +kernel, by decide +kernel, by decide +kernel, by decide +kernel, by decide +kernel⟩
theorem ws_151 : a_rc 151 ≠ 0 → (a_y 151).name ≠ "<init>" → (a_y 151).name ≠ "ordinal" → WSel 151 := fun h _ _ => absurd (by decide +kernel) h
set_option maxRecDepth 100000 in
theorem wm_152 : WMth 152 := ⟨rfl, by decide +kernel, by decide +kernel, by decide +kernel, by decide +kernel, by decide +kernel, by decide +kernel, by decide +kernel⟩
theorem ws_152 : a_rc 152 ≠ 0 → (a_y 152).name ≠ "<init>" → (a_y 152).name ≠ "ordinal" → WSel 152 := fun _ _ _ => ⟨by decide +kernel, by decide +kernel, by decide +kernel⟩
set_option maxRecDepth 100000 in
theorem wm_153 : WMth 153 := ⟨rfl, by decide +kernel, by decide +kernel, by decide +kernel, by decide +kernel, by decide +kernel, by decide +kernel, by decide +kernel⟩
theorem ws_153 : a_rc 153 ≠ 0 → (a_y 153).name ≠ "<init>" → (a_y 153).name ≠ "ordinal" → WSel 153 := fun _ _ _ => ⟨by decide +kernel, by decide +kernel, by decide +kernel⟩
set_option maxRecDepth 100000 in
theorem wm_154 : WMth 154 := ⟨rfl, by decide +kernel, by decide +kernel, by decide +kernel, by decide +kernel, by decide +kernel, by decide +kernel, by decide +kernel⟩
theorem ws_154 : a_rc 154 ≠ 0 → (a_y 154).name ≠ "<init>" → (a_y 154).name ≠ "ordinal" → WSel 154 := fun _ _ _ => ⟨by decide +kernel, by decide +kernel, by decide +kernel⟩
set_option maxRecDepth 100000 in
theorem wm_155 : WMth 155 := ⟨rfl, by decide +kernel, by decide +kernel, by decide +kernel, by decide +kernel, by decide +kernel, by decide +kernel, by decide +kernel⟩
theorem ws_155 : a_rc 155 ≠ 0 → (a_y 155).name ≠ "<init>" → (a_y 155).name ≠ "ordinal" → WSel 155 := fun _ _ _ => ⟨by decide +kernel, by decide +kernel, by decide +kernel⟩
set_option maxRecDepth 100000 in
theorem wm_156 : WMth 156 := ⟨rfl, by decide +kernel, by decide +kernel, by decide +kernel, by decide +kernel, by decide +kernel, by decide +kernel, by decide +kernel⟩
theorem ws_156 : a_rc 156 ≠ 0 → (a_y 156).name ≠ "<init>" → (a_y 156).name ≠ "ordinal" → WSel 156 := fun _ _ _ => ⟨by decide +kernel, by decide +kernel, by decide +kernel⟩
set_option maxRecDepth 100000 in
theorem wm_157 : WMth 157 := ⟨rfl, by decide +kernel, by decide +kernel, by decide +kernel, by decide +kernel, by decide +kernel, by decide +kernel, by decide +kernel⟩
theorem ws_157 : a_rc 157 ≠ 0 → (a_y 157).name ≠ "<init>" → (a_y 157).name ≠ "ordinal" → WSel 157 := fun _ _ _ => ⟨by decide +kernel, by decide +kernel, by decide +kernel⟩
set_option maxRecDepth 100000 in
theorem wm_158 : WMth 158 := ⟨rfl, by decide +kernel, by decide +kernel, by decide +kernel, by decide +kernel, by decide +kernel, by decide +kernel, by decide +kernel⟩
theorem ws_158 : a_rc 158 ≠ 0 → (a_y 158).name ≠ "<init>" → (a_y 158).name ≠ "ordinal" → WSel 158 := fun h _ _ => absurd (by decide +kernel) h
set_option maxRecDepth 100000 in
theorem wm_159 : WMth 159 := ⟨rfl, by decide +kernel, by decide +kernel, by decide +kernel, by decide +kernel, by decide +kernel, by decide +kernel, by decide +kernel⟩
theorem ws_159 : a_rc 159 ≠ 0 → (a_y 159).name ≠ "<init>" → (a_y 159).name ≠ "ordinal" → WSel 159 := fun _ _ _ => ⟨by decide +kernel, by decide +kernel, by decide +kernel⟩
theorem wmc_140 : ∀ k, k < 20 → WMth (140 + k) ∧ (a_rc (140 + k) ≠ 0 → (a_y (140 + k)).name ≠ "<init>" → (a_y (140 + k)).name ≠ "ordinal" → WSel (140 + k)) := by
  intro k hk
  rcases (show k = 0 ∨ k = 1 ∨ k = 2 ∨ k = 3 ∨ k = 4 ∨ k = 5 ∨ k = 6 ∨ k = 7 ∨ k = 8 ∨ k = 9 ∨ k = 10 ∨ k = 11 ∨ k = 12 ∨ k = 13 ∨ k = 14 ∨ k = 15 ∨ k = 16 ∨ k = 17 ∨ k = 18 ∨ k = 19 by omega) with h | h | h | h | h | h | h | h | h | h | h | h | h | h | h | h | h | h | h | h <;> subst h
  · exact ⟨wm_140, ws_140⟩
  · exact ⟨wm_141, ws_141⟩
  · exact ⟨wm_142, ws_142⟩
  · exact ⟨wm_143, ws_143⟩
  · exact ⟨wm_144, ws_144⟩
  · exact ⟨wm_145, ws_145⟩
  · exact ⟨wm_146, ws_146⟩
  · exact ⟨wm_147, ws_147⟩
  · exact ⟨wm_148, ws_148⟩
  · exact ⟨wm_149, ws_149⟩
  · exact ⟨wm_150, ws_150⟩
  · exact ⟨wm_151, ws_151⟩
  · exact ⟨wm_152, ws_152⟩
  · exact ⟨wm_153, ws_153⟩
  · exact ⟨wm_154, ws_154⟩
  · exact ⟨wm_155, ws_155⟩
  · exact ⟨wm_156, ws_156⟩
  · exact ⟨wm_157, ws_157⟩
  · exact ⟨wm_158, ws_158⟩
  · exact ⟨wm_159, ws_159⟩
set_option maxRecDepth 100000 in
theorem wm_160 : WMth 160 := ⟨rfl, by decide +kernel, by decide +kernel, by decide +kernel, by decide +kernel, by decide +kernel, by decide +kernel, by decide +kernel⟩
theorem ws_160 : a_rc 160 ≠ 0 → (a_y 160).name ≠ "<init>" → (a_y 160).name ≠ "ordinal" → WSel 160 := fun _ _ _ => ⟨by decide +kernel, by decide +kernel, by decide +kernel⟩
set_option maxRecDepth 100000 in
theorem wm_161 : WMth 161 := ⟨rfl, by decide +kernel, by decide +kernel, by decide +kernel, by decide +kernel, by decide +kernel, by decide +kernel, by decide +kernel⟩
theorem ws_161 : a_rc 161 ≠ 0 → (a_y 161).name ≠ "<init>" → (a_y 161).name ≠ "ordinal" → WSel 161 := fun _ _ _ => ⟨by decide +kernel, by decide +kernel, by decide +kernel⟩
set_option maxRecDepth 100000 in
theorem wm_162 : WMth 162 := ⟨rfl, by decide +kernel, by decide +kernel, by decide +kernel, by decide +kernel, by decide +kernel, by decide +kernel, by decide +kernel⟩
theorem ws_162 : a_rc 162 ≠ 0 → (a_y 162).name ≠ "<init>" → (a_y 162).name ≠ "ordinal" → WSel 162 := fun _ _ _ => ⟨by decide +kernel, by decide +kernel, by decide +kernel⟩
set_option maxRecDepth 100000 in
theorem wm_163 : WMth 163 := ⟨rfl, by decide +kernel, by decide +kernel, by decide +kernel, by decide +kernel, by decide +kernel, by decide +kernel, by decide +kernel⟩
theorem ws_163 : a_rc 163 ≠ 0 → (a_y 163).name ≠ "<init>" → (a_y 163).name ≠ "ordinal" → WSel 163 := fun _ _ _ => ⟨by decide +kernel, by decide +kernel, by decide +kernel⟩
set_option maxRecDepth 100000 in
theorem wm_164 : WMth 164 := ⟨rfl, by decide +kernel, by decide +kernel, by decide +kernel, by decide +kernel, by decide +kernel, by decide +kernel, by decide +kernel⟩
theorem ws_164 : a_rc 164 ≠ 0 → (a_y 164).name ≠ "<init>" → (a_y 164).name ≠ "ordinal" → WSel 164 := fun _ _ _ => ⟨by decide +kernel, by decide +kernel, by decide +kernel⟩
set_option maxRecDepth 100000 in
theorem wm_165 : WMth 165 := ⟨rfl, by decide +kernel, by decide +kernel, by decide +kernel, by decide +kernel, by decide +kernel, by decide +kernel, by decide +kernel⟩
theorem ws_165 : a_rc 165 ≠ 0 → (a_y 165).name ≠ "<init>" → (a_y 165).name ≠ "ordinal" → WSel 165 := fun _ _ _ => ⟨by decide +kernel, by decide +kernel, by decide +kernel⟩
set_option maxRecDepth 100000 in
theorem wm_166 : WMth 166 := ⟨rfl, by decide +kernel, by decide +kernel, by decide +kernel, by decide +kernel, by decide +kernel, by decide +kernel, by decide +kernel⟩
theorem ws_166 : a_rc 166 ≠ 0 → (a_y 166).name ≠ "<init>" → (a_y 166).name ≠ "ordinal" → WSel 166 := fun _ _ _ => ⟨by decide +kernel, by decide +kernel, by decide +kernel⟩
set_option maxRecDepth 100000 in
theorem wm_167 : WMth 167 := ⟨rfl, by decide +kernel, by decide +kernel, by decide +kernel, by decide +kernel, by decide +kernel, by decide +kernel, by decide +kernel⟩
theorem ws_167 : a_rc 167 ≠ 0 → (a_y 167).name ≠ "<init>" → (a_y 167).name ≠ "ordinal" → WSel 167 := fun _ _ _ => ⟨by decide +kernel, by decide +kernel, by decide +kernel⟩
set_option maxRecDepth 100000 in
theorem wm_168 : WMth 168 := ⟨rfl, by decide +kernel, by decide +kernel, by decide +kernel, by decide +kernel, by decide +kernel, by decide +kernel, by decide +kernel⟩
theorem ws_168 : a_rc 168 ≠ 0 → (a_y 168).name ≠ "<init>" → (a_y 168).name ≠ "ordinal" → WSel 168 := fun _ _ _ => ⟨by decide +kernel, by decide +kernel, by decide +kernel⟩
set_option maxRecDepth 100000 in
theorem wm_169 : WMth 169 := ⟨rfl, by decide +kernel, by decide +kernel, by decide +kernel, by decide +kernel, by decide +kernel, by decide +kernel, by decide +kernel⟩
theorem ws_169 : a_rc 169 ≠ 0 → (a_y 169).name ≠ "<init>" → (a_y 169).name ≠ "ordinal" → WSel 169 := fun h _ _ => absurd (by decide +kernel) h
set_option maxRecDepth 100000 in
theorem wm_170 : WMth 170 := ⟨rfl, by decide +kernel, by decide +kernel, by decide +kernel, by decide +kernel, by decide +kernel, by decide +kernel, by decide +kernel⟩
theorem ws_170 : a_rc 170 ≠ 0 → (a_y 170).name ≠ "<init>" → (a_y 170).name ≠ "ordinal" → WSel 170 := fun _ _ _ => ⟨by decide +kernel, by decide +kernel, by decide +kernel⟩
set_option maxRecDepth 100000 in
theorem wm_171 : WMth 171 := ⟨rfl, by decide +kernel, by decide +kernel, by decide +kernel, by decide +kernel, by decide +kernel, by decide +kernel, by decide +kernel⟩
theorem ws_171 : a_rc 171 ≠ 0 → (a_y 171).name ≠ "<init>" → (a_y 171).name ≠ "ordinal" → WSel 171 := fun h _ _ => absurd (by decide +kernel) h
set_option maxRecDepth 100000 in
theorem wm_172 : WMth 172 := ⟨rfl, by decide +kernel, by decide +kernel, by decide +kernel, by decide +kernel, by decide +kernel, by decide +kernel, by decide +kernel⟩
theorem ws_172 : a_rc 172 ≠ 0 → (a_y 172).name ≠ "<init>" → (a_y 172).name ≠ "ordinal" → WSel 172 := fun _ _ _ => ⟨by decide +kernel, by decide +kernel, by decide +kernel⟩
set_option maxRecDepth 100000 in
theorem wm_173 : WMth 173 := ⟨rfl, by decide +kernel, by decide +kernel, by decide +kernel, by decide +kernel, by decide +kernel, by decide +kernel, by decide +kernel⟩
theorem ws_173 : a_rc 173 ≠ 0 → (a_y 173).name ≠ "<init>" → (a_y 173).name ≠ "ordinal" → WSel 173 := fun h _ _ => absurd (by decide +kernel) h
set_option maxRecDepth 100000 in
theorem wm_174 : WMth 174 := ⟨rfl, by decide +kernel, by decide +kernel, by decide +kernel, by decide +kernel, by decide +kernel, by decide +kernel, by decide +kernel⟩
theorem ws_174 : a_rc 174 ≠ 0 → (a_y 174).name ≠ "<init>" → (a_y 174).name ≠ "ordinal" → WSel 174 := fun _ _ _ => ⟨by decide +kernel, by decide +kernel, by decide +kernel⟩
set_option maxRecDepth 100000 in
theorem wm_175 : WMth 175 := ⟨rfl, by decide +kernel, by decide +kernel, by decide +kernel, by decide +kernel, by decide +kernel, by decide +kernel, by decide +kernel⟩
theorem ws_175 : a_rc 175 ≠ 0 → (a_y 175).name ≠ "<init>" → (a_y 175).name ≠ "ordinal" → WSel 175 := fun _ _ _ => ⟨by decide +kernel, by decide +kernel, by decide +kernel⟩
set_option maxRecDepth 100000 in
theorem wm_176 : WMth 176 := ⟨rfl, by decide +kernel, by decide +kernel, by decide +kernel, by decide +kernel, by decide +kernel, by decide +kernel, by decide +kernel⟩
theorem ws_176 : a_rc 176 ≠ 0 → (a_y 176).name ≠ "<init>" → (a_y 176).name ≠ "ordinal" → WSel 176 := fun _ _ _ => ⟨by decide +kernel, by decide +kernel, by decide +kernel⟩
set_option maxRecDepth 100000 in
theorem wm_177 : WMth 177 := ⟨rfl, by decide +kernel, by decide +kernel, by decide +kernel, by decide +kernel, by decide +kernel, by decide +kernel, by decide +kernel⟩
theorem ws_177 : a_rc 177 ≠ 0 → (a_y 177).name ≠ "<init>" → (a_y 177).name ≠ "ordinal" → WSel 177 := fun _ _ _ => ⟨by decide +kernel, by decide +kernel, by decide +kernel⟩
set_option maxRecDepth 100000 in
theorem wm_178 : WMth 178 := ⟨rfl, by decide +kernel, by decide +kernel, by decide +kernel, by decide +kernel, by decide +kernel, by decide +kernel, by decide +kernel⟩
theorem ws_178 : a_rc 178 ≠ 0 → (a_y 178).name ≠ "<init>" → (a_y 178).name ≠ "ordinal" → WSel 178 := fun _ _ _ => ⟨by decide +kernel, by decide +kernel, by decide +kernel⟩
set_option maxRecDepth 100000 in
theorem wm_179 : WMth 179 := ⟨rfl, by decide +kernel, by decide +kernel, by decide +kernel, by decide +kernel, by decide +kernel, by decide +kernel, by decide +kernel⟩
theorem ws_179 : a_rc 179 ≠ 0 → (a_y 179).name ≠ "<init>" → (a_y 179).name ≠ "ordinal" → WSel 179 := fun _ _ _ => ⟨by decide +kernel, by decide +kernel, by decide +kernel⟩
theorem wmc_160 : ∀ k, k < 20 → WMth (160 + k) ∧ (a_rc (160 + k) ≠ 0 → (a_y (160 + k)).name ≠ "<init>" → (a_y (160 + k)).name ≠ "ordinal" → WSel (160 + k)) := by
  intro k hk
  rcases (show k = 0 ∨ k = 1 ∨ k = 2 ∨ k = 3 ∨ k = 4 ∨ k = 5 ∨ k = 6 ∨ k = 7 ∨ k = 8 ∨ k = 9 ∨ k = 10 ∨ k = 11 ∨ k = 12 ∨ k = 13 ∨ k = 14 ∨ k = 15 ∨ k = 16 ∨ k = 17 ∨ k = 18 ∨ k = 19 by omega) with h | h | h | h | h | h | h | h | h | h | h | h | h | h | h | h | h | h | h | h <;> subst h
  · exact ⟨wm_160, ws_160⟩
  · exact ⟨wm_161, ws_161⟩
  · exact ⟨wm_162, ws_162⟩
  · exact ⟨wm_163, ws_163⟩
  · exact ⟨wm_164, ws_164⟩
  · exact ⟨wm_165, ws_165⟩
  · exact ⟨wm_166, ws_166⟩
  · exact ⟨wm_167, ws_167⟩
  · exact ⟨wm_168, ws_168⟩
  · exact ⟨wm_169, ws_169⟩
  · exact ⟨wm_170, ws_170⟩
  · exact ⟨wm_171, ws_171⟩
  · exact ⟨wm_172, ws_172⟩
  · exact ⟨wm_173, ws_173⟩
  · exact ⟨wm_174, ws_174⟩
  · exact ⟨wm_175, ws_175⟩
  · exact ⟨wm_176, ws_176⟩
  · exact ⟨wm_177, ws_177⟩
  · exact ⟨wm_178, ws_178⟩
  · exact ⟨wm_179, ws_179⟩
set_option maxRecDepth 100000 in
theorem wm_180 : WMth 180 := ⟨rfl, by decide +kernel, by decide +kernel, by decide +kernel, by decide +kernel, by decide +kernel, by decide +kernel, by decide +kernel⟩
theorem ws_180 : a_rc 180 ≠ 0 → (a_y 180).name ≠ "<init>" → (a_y 180).name ≠ "ordinal" → WSel 180 := fun _ _ _ => ⟨by decide +kernel, by decide +kernel, by decide +kernel⟩
set_option maxRecDepth 100000 in
theorem wm_181 : WMth 181 := ⟨rfl, by decide +kernel, by decide +kernel, by decide +kernel, by decide +kernel, by decide +kernel, by decide +kernel, by decide +kernel⟩
theorem ws_181 : a_rc 181 ≠ 0 → (a_y 181).name ≠ "<init>" → (a_y 181).name ≠ "ordinal" → WSel 181 := fun _ _ _ => ⟨by decide +kernel, by decide +kernel, by decide +kernel⟩
set_option maxRecDepth 100000 in
theorem wm_182 : WMth 182 := ⟨rfl, by decide +kernel, by decide +kernel, by decide +kernel, by decide +kernel, by decide +kernel, by decide +kernel, by decide +kernel⟩
theorem ws_182 : a_rc 182 ≠ 0 → (a_y 182).name ≠ "<init>" → (a_y 182).name ≠ "ordinal" → WSel 182 := fun _ _ _ => ⟨by decide +kernel, by decide +kernel, by decide +kernel⟩
set_option maxRecDepth 100000 in
theorem wm_183 : WMth 183 := ⟨rfl, by decide +kernel, by decide +kernel, by decide +kernel, by decide +kernel, by decide +kernel, by decide +kernel, by decide +kernel⟩
theorem ws_183 : a_rc 183 ≠ 0 → (a_y 183).name ≠ "<init>" → (a_y 183).name ≠ "ordinal" → WSel 183 := fun _ _ _ => ⟨by decide +kernel, by decide +kernel, by decide +kernel⟩
set_option maxRecDepth 100000 in
theorem wm_184 : WMth 184 := ⟨rfl, by decide +kernel, by decide +kernel, by decide +kernel, by decide +kernel, by decide +kernel, by decide +kernel, by decide +kernel⟩
theorem ws_184 : a_rc 184 ≠ 0 → (a_y 184).name ≠ "<init>" → (a_y 184).name ≠ "ordinal" → WSel 184 := fun _ _ _ => ⟨by decide +kernel, by decide +kernel, by decide +kernel⟩
set_option maxRecDepth 100000 in
theorem wm_185 : WMth 185 := ⟨rfl, by decide +kernel, by decide +kernel, by decide +kernel, by decide +kernel, by decide +kernel, by decide +kernel, by decide +kernel⟩
theorem ws_185 : a_rc 185 ≠ 0 → (a_y 185).name ≠ "<init>" → (a_y 185).name ≠ "ordinal" → WSel 185 := fun _ _ _ => ⟨by decide +kernel, by decide +kernel, by decide +kernel⟩
set_option maxRecDepth 100000 in
theorem wm_186 : WMth 186 := ⟨rfl, by decide +kernel, by decide +kernel, by decide +kernel, by decide +kernel, by decide +kernel, by decide +kernel, by decide +kernel⟩
theorem ws_186 : a_rc 186 ≠ 0 → (a_y 186).name ≠ "<init>" → (a_y 186).name ≠ "ordinal" → WSel 186 := fun _ _ _ => ⟨by decide +kernel, by decide +kernel, by decide +kernel⟩
set_option maxRecDepth 100000 in
theorem wm_187 : WMth 187 := ⟨rfl, by decide +kernel, by decide +kernel, by decide +kernel, by decide +kernel, by decide +kernel, by decide +kernel, by decide +kernel⟩
theorem ws_187 : a_rc 187 ≠ 0 → (a_y 187).name ≠ "<init>" → (a_y 187).name ≠ "ordinal" → WSel 187 := fun _ _ _ => ⟨by decide +kernel, by decide +kernel, by decide +kernel⟩
set_option maxRecDepth 100000 in
theorem wm_188 : WMth 188 := ⟨rfl, by decide +kernel, by decide +kernel, by decide +kernel, by decide +kernel, by decide +kernel, by decide +kernel, by decide +kernel⟩
theorem ws_188 : a_rc 188 ≠ 0 → (a_y 188).name ≠ "<init>" → (a_y 188).name ≠ "ordinal" → WSel 188 := fun _ _ _ => ⟨by decide +kernel, by decide +kernel, by decide +kernel⟩
set_option maxRecDepth 100000 in
theorem wm_189 : WMth 189 := ⟨rfl, by decide +kernel, by decide +kernel, by decide +kernel, by decide +kernel, by decide +kernel, by decide +kernel, by decide +kernel⟩
theorem ws_189 : a_rc 189 ≠ 0 → (a_y 189).name ≠ "<init>" → (a_y 189).name ≠ "ordinal" → WSel 189 := fun _ _ _ => ⟨by decide +kernel, by decide +kernel, by decide +kernel⟩
set_option maxRecDepth 100000 in
theorem wm_190 : WMth 190 := ⟨rfl, by decide +kernel, by decide +kernel, by decide +kernel, by decide +kernel, by decide +kernel, by decide +kernel, by decide +kernel⟩
theorem ws_190 : a_rc 190 ≠ 0 → (a_y 190).name ≠ "<init>" → (a_y 190).name ≠ "ordinal" → WSel 190 := fun _ _ _ => ⟨by decide +kernel, by decide +kernel, by decide +kernel⟩
set_option maxRecDepth 100000 in
theorem wm_191 : WMth 191 := ⟨rfl, by decide +kernel, by decide +kernel, by decide +kernel, by decide +kernel, by decide +kernel, by decide +kernel, by decide +kernel⟩
theorem ws_191 : a_rc 191 ≠ 0 → (a_y 191).name ≠ "<init>" → (a_y 191).name ≠ "ordinal" → WSel 191 := fun _ _ _ => ⟨by decide +kernel, by decide +kernel, by decide +kernel⟩
set_option maxRecDepth 100000 in
theorem wm_192 : WMth 192 := ⟨rfl, by decide +kernel, by decide +kernel, by decide +kernel, by decide +kernel, by decide +kernel, by decide +kernel, by decide +kernel⟩
theorem ws_192 : a_rc 192 ≠ 0 → (a_y 192).name ≠ "<init>" → (a_y 192).name ≠ "ordinal" → WSel 192 := fun _ _ _ => ⟨by decide +kernel, by decide +kernel, by decide +kernel⟩
set_option maxRecDepth 100000 in
theorem wm_193 : WMth 193 := ⟨rfl, by decide +kernel, by decide +kernel, by decide +kernel, by decide +kernel, by decide +kernel, by decide +kernel, by decide +kernel⟩
theorem ws_193 : a_rc 193 ≠ 0 → (a_y 193).name ≠ "<init>" → (a_y 193).name ≠ "ordinal" → WSel 193 := fun _ _ _ => ⟨by decide +kernel, by decide +kernel, by decide +kernel⟩
set_option maxRecDepth 100000 in
theorem wm_194 : WMth 194 := ⟨rfl, by decide +kernel, by decide +kernel, by decide +kernel, by decide +kernel, by decide +kernel, by decide +kernel, by decide +kernel⟩
theorem ws_194 : a_rc 194 ≠ 0 → (a_y 194).name ≠ "<init>" → (a_y 194).name ≠ "ordinal" → WSel 194 := fun _ _ _ => ⟨by decide +kernel, by decide +kernel, by decide +kernel⟩
set_option maxRecDepth 100000 in
theorem wm_195 : WMth 195 := ⟨rfl, by decide +kernel, by decide +kernel, by decide +kernel, by decide +kernel, by decide +kernel, by decide +kernel, by decide +kernel⟩
theorem ws_195 : a_rc 195 ≠ 0 → (a_y 195).name ≠ "<init>" → (a_y 195).name ≠ "ordinal" → WSel 195 := fun _ _ _ => ⟨by decide +kernel, by decide +kernel, by decide +kernel⟩
set_option maxRecDepth 100000 in
theorem wm_196 : WMth 196 := ⟨rfl, by decide +kernel, by decide +kernel, by decide +kernel, by decide +kernel, by decide +kernel, by decide +kernel, by decide +kernel⟩
theorem ws_196 : a_rc 196 ≠ 0 → (a_y 196).name ≠ "<init>" → (a_y 196).name ≠ "ordinal" → WSel 196 := fun _ _ _ => ⟨by decide +kernel, by decide +kernel, by decide +kernel⟩
set_option maxRecDepth 100000 in
theorem wm_197 : WMth 197 := ⟨rfl, by decide +kernel, by decide +kernel, by decide +kernel, by decide +kernel, by decide +kernel, by decide +kernel, by decide +kernel⟩
theorem ws_197 : a_rc 197 ≠ 0 → (a_y 197).name ≠ "<init>" → (a_y 197).name ≠ "ordinal" → WSel 197 := fun _ _ _ => ⟨by decide +kernel, by decide +kernel, by decide +kernel⟩
set_option maxRecDepth 100000 in
theorem wm_198 : WMth 198 := ⟨rfl, by decide +kernel, by decide +kernel, by decide +kernel, by decide +kernel, by decide +kernel, by decide +kernel, by decide +kernel⟩
theorem ws_198 : a_rc 198 ≠ 0 → (a_y 198).name ≠ "<init>" → (a_y 198).name ≠ "ordinal" → WSel 198 := fun _ _ _ => ⟨by decide +kernel, by decide +kernel, by decide +kernel⟩
set_option maxRecDepth 100000 in
theorem wm_199 : WMth 199 := ⟨rfl, by decide +kernel, by decide +kernel, by decide +kernel, by decide +kernel, by decide +kernel, by decide +kernel, by decide +kernel⟩
theorem ws_199 : a_rc 199 ≠ 0 → (a_y 199).name ≠ "<init>" → (a_y 199).name ≠ "ordinal" → WSel 199 := fun h _ _ => absurd (by decide +kernel) h
theorem wmc_180 : ∀ k, k < 20 → WMth (180 + k) ∧ (a_rc (180 + k) ≠ 0 → (a_y (180 + k)).name ≠ "<init>" → (a_y (180 + k)).name ≠ "ordinal" → WSel (180 + k)) := by
  intro k hk
  rcases (show k = 0 ∨ k = 1 ∨ k = 2 ∨ k = 3 ∨ k = 4 ∨ k = 5 ∨ k = 6 ∨ k = 7 ∨ k = 8 ∨ k = 9 ∨ k = 10 ∨ k = 11 ∨ k = 12 ∨ k = 13 ∨ k = 14 ∨ k = 15 ∨ k = 16 ∨ k = 17 ∨ k = 18 ∨ k = 19 by omega) with h | h | h | h | h | h | h | h | h | h | h | h | h | h | h | h | h | h | h | h <;> subst h
  · exact ⟨wm_180, ws_180⟩
  · exact ⟨wm_181, ws_181⟩
  · exact ⟨wm_182, ws_182⟩
  · exact ⟨wm_183, ws_183⟩
  · exact ⟨wm_184, ws_184⟩
  · exact ⟨wm_185, ws_185⟩
  · exact ⟨wm_186, ws_186⟩
  · exact ⟨wm_187, ws_187⟩
  · exact ⟨wm_188, ws_188⟩
  · exact ⟨wm_189, ws_189⟩
  · exact ⟨wm_190, ws_190⟩
  · exact ⟨wm_191, ws_191⟩
  · exact ⟨wm_192, ws_192⟩
  · exact ⟨wm_193, ws_193⟩
  · exact ⟨wm_194, ws_194⟩
  · exact ⟨wm_195, ws_195⟩
  · exact ⟨wm_196, ws_196⟩
  · exact ⟨wm_197, ws_197⟩
  · exact ⟨wm_198, ws_198⟩
  · exact ⟨wm_199, ws_199⟩
set_option maxRecDepth 100000 in
theorem wm_200 : WMth 200 := ⟨rfl, by decide +kernel, by decide +kernel, by decide +kernel, by decide +kernel, by decide +kernel, by decide +kernel, by decide +kernel⟩
theorem ws_200 : a_rc 200 ≠ 0 → (a_y 200).name ≠ "<init>" → (a_y 200).name ≠ "ordinal" → WSel 200 := fun h _ _ => absurd (by decide +kernel) h
set_option maxRecDepth 100000 in
theorem wm_201 : WMth 201 := ⟨rfl, by decide +kernel, by decide +kernel, by decide +kernel, by decide +kernel, by decide +kernel, by decide +kernel, by decide +kernel⟩
theorem ws_201 : a_rc 201 ≠ 0 → (a_y 201).name ≠ "<init>" → (a_y 201).name ≠ "ordinal" → WSel 201 := fun h _ _ => absurd (by decide +kernel) h
set_option maxRecDepth 100000 in
theorem wm_202 : WMth 202 := ⟨rfl, by decide +kernel, by decide +kernel, by decide +kernel, by decide +kernel, by decide +kernel, by decide +kernel, by decide +kernel⟩
theorem ws_202 : a_rc 202 ≠ 0 → (a_y 202).name ≠ "<init>" → (a_y 202).name ≠ "ordinal" → WSel 202 := fun _ _ _ => ⟨by decide +kernel, by decide +kernel, by decide +kernel⟩
set_option maxRecDepth 100000 in
theorem wm_203 : WMth 203 := ⟨rfl, by decide +kernel, by decide +kernel, by decide +kernel, by decide +kernel, by decide +kernel, by decide +kernel, by decide +kernel⟩
theorem ws_203 : a_rc 203 ≠ 0 → (a_y 203).name ≠ "<init>" → (a_y 203).name ≠ "ordinal" → WSel 203 := fun _ _ _ => ⟨by decide +kernel, by decide +kernel, by decide +kernel⟩
set_option maxRecDepth 100000 in
theorem wm_204 : WMth 204 := ⟨rfl, by decide +kernel, by decide +kernel, by decide +kernel, by decide +kernel, by decide +kernel, by decide +kernel, by decide +kernel⟩
theorem ws_204 : a_rc 204 ≠ 0 → (a_y 204).name ≠ "<init>" → (a_y 204).name ≠ "ordinal" → WSel 204 := fun _ _ _ => ⟨by decide +kernel, by decide +kernel, by decide +kernel⟩
set_option maxRecDepth 100000 in
theorem wm_205 : WMth 205 := ⟨rfl, by decide +kernel, by decide +kernel, by decide +kernel, by decide +kernel, by decide +kernel, by decide +kernel, by decide +kernel⟩
theorem ws_205 : a_rc 205 ≠ 0 → (a_y 205).name ≠ "<init>" → (a_y 205).name ≠ "ordinal" → WSel 205 := fun _ _ _ => ⟨by decide +kernel, by decide +kernel, by decide +kernel⟩
set_option maxRecDepth 100000 in
theorem wm_206 : WMth 206 := ⟨rfl, by decide +kernel, by decide +kernel, by decide +kernel, by decide +kernel, by decide +kernel, by decide +kernel, by decide +kernel⟩
theorem ws_206 : a_rc 206 ≠ 0 → (a_y 206).name ≠ "<init>" → (a_y 206).name ≠ "ordinal" → WSel 206 := fun _ _ _ => ⟨by decide +kernel, by decide +kernel, by decide +kernel⟩
set_option maxRecDepth 100000 in
theorem wm_207 : WMth 207 := ⟨rfl, by decide +kernel, by decide +kernel, by decide +kernel, by decide +kernel, by decide +kernel, by decide +kernel, by decide +kernel⟩
theorem ws_207 : a_rc 207 ≠ 0 → (a_y 207).name ≠ "<init>" → (a_y 207).name ≠ "ordinal" → WSel 207 := fun _ _ _ => ⟨by decide +kernel, by decide +kernel, by decide +kernel⟩
set_option maxRecDepth 100000 in
theorem wm_208 : WMth 208 := ⟨rfl, by decide +kernel, by decide +kernel, by decide +kernel, by decide +kernel, by decide +kernel, by decide +kernel, by decide +kernel⟩
theorem ws_208 : a_rc 208 ≠ 0 → (a_y 208).name ≠ "<init>" → (a_y 208).name ≠ "ordinal" → WSel 208 := fun _ _ _ => ⟨by decide +kernel, by decide +kernel, by decide +kernel⟩
set_option maxRecDepth 100000 in
theorem wm_209 : WMth 209 := ⟨rfl, by decide +kernel, by decide +kernel, by decide +kernel, by decide +kernel, by decide +kernel, by decide +kernel, by decide +kernel⟩
theorem ws_209 : a_rc 209 ≠ 0 → (a_y 209).name ≠ "<init>" → (a_y 209).name ≠ "ordinal" → WSel 209 := fun _ _ _ => ⟨by decide +kernel, by decide +kernel, by decide +kernel⟩
set_option maxRecDepth 100000 in
theorem wm_210 : WMth 210 := ⟨rfl, by decide +kernel, by decide +kernel, by decide +kernel, by decide +kernel, by decide +kernel, by decide +kernel, by decide +kernel⟩
theorem ws_210 : a_rc 210 ≠ 0 → (a_y 210).name ≠ "<init>" → (a_y 210).name ≠ "ordinal" → WSel 210 := fun _ _ _ => ⟨by decide +kernel, by decide +kernel, by decide +kernel⟩
set_option maxRecDepth 100000 in
theorem wm_211 : WMth 211 := ⟨rfl, by decide +kernel, by decide +kernel, by decide +kernel, by decide +kernel, by decide +kernel, by decide +kernel, by decide +kernel⟩
theorem ws_211 : a_rc 211 ≠ 0 → (a_y 211).name ≠ "<init>" → (a_y 211).name ≠ "ordinal" → WSel 211 := fun _ _ _ => ⟨by decide +kernel, by decide +kernel, by decide +kernel⟩
set_option maxRecDepth 100000 in
theorem wm_212 : WMth 212 := ⟨rfl, by decide +kernel, by decide +kernel, by decide +kernel, by decide +kernel, by decide +kernel, by decide +kernel, by decide +kernel⟩
theorem ws_212 : a_rc 212 ≠ 0 → (a_y 212).name ≠ "<init>" → (a_y 212).name ≠ "ordinal" → WSel 212 := fun _ h _ => absurd (by decide +kernel) h
set_option maxRecDepth 100000 in
theorem wm_213 : WMth 213 := ⟨rfl, by decide +kernel, by decide +kernel, by decide +kernel, by decide +kernel, by decide +kernel, by decide +kernel, by decide +kernel⟩
theorem ws_213 : a_rc 213 ≠ 0 → (a_y 213).name ≠ "<init>" → (a_y 213).name ≠ "ordinal" → WSel 213 := fun _ _ _ => ⟨by decide +kernel, by decide +kernel, by decide +kernel⟩
set_option maxRecDepth 100000 in
theorem wm_214 : WMth 214 := ⟨rfl, by decide +kernel, by decide +kernel, by decide +kernel, by decide +kernel, by decide +kernel, by decide +kernel, by decide +kernel⟩
theorem ws_214 : a_rc 214 ≠ 0 → (a_y 214).name ≠ "<init>" → (a_y 214).name ≠ "ordinal" → WSel 214 := fun _ _ _ => ⟨by decide +kernel, by decide +kernel, by decide +kernel⟩
set_option maxRecDepth 100000 in
theorem wm_215 : WMth 215 := ⟨rfl, by decide +kernel, by decide +kernel, by decide +kernel, by decide +kernel, by decide +kernel, by decide +kernel, by decide +kernel⟩
theorem ws_215 : a_rc 215 ≠ 0 → (a_y 215).name ≠ "<init>" → (a_y 215).name ≠ "ordinal" → WSel 215 := fun _ _ _ => ⟨by decide +kernel, by decide +kernel, by decide +kernel⟩
set_option maxRecDepth 100000 in
theorem wm_216 : WMth 216 := ⟨rfl, by decide +kernel, by decide +kernel, by decide +kernel, by decide +kernel, by decide +kernel, by decide +kernel, by decide +kernel⟩
theorem ws_216 : a_rc 216 ≠ 0 → (a_y 216).name ≠ "<init>" → (a_y 216).name ≠ "ordinal" → WSel 216 := fun _ _ _ => ⟨by decide +kernel, by decide +kernel, by decide +kernel⟩
set_option maxRecDepth 100000 in
theorem wm_217 : WMth 217 := ⟨rfl, by decide +kernel, by decide +kernel, by decide +kernel, by decide +kernel, by decide +kernel, by decide +kernel, by decide +kernel⟩
theorem ws_217 : a_rc 217 ≠ 0 → (a_y 217).name ≠ "<init>" → (a_y 217).name ≠ "ordinal" → WSel 217 := fun _ _ _ => ⟨by decide +kernel, by decide +kernel, by decide +kernel⟩
set_option maxRecDepth 100000 in
theorem wm_218 : WMth 218 := ⟨rfl, by decide +kernel, by decide +kernel, by decide +kernel, by decide +kernel, by decide +kernel, by decide +kernel, by decide +kernel⟩
theorem ws_218 : a_rc 218 ≠ 0 → (a_y 218).name ≠ "<init>" → (a_y 218).name ≠ "ordinal" → WSel 218 := fun h _ _ => absurd (by decide +kernel) h
set_option maxRecDepth 100000 in
theorem wm_219 : WMth 219 := ⟨rfl, by decide +kernel, by decide +kernel, by decide +kernel, by decide +kernel, by decide +kernel, by decide +kernel, by decide +kernel⟩
theorem ws_219 : a_rc 219 ≠ 0 → (a_y 219).name ≠ "<init>" → (a_y 219).name ≠ "ordinal" → WSel 219 := fun h _ _ => absurd (by decide +kernel) h
theorem wmc_200 : ∀ k, k < 20 → WMth (200 + k) ∧ (a_rc (200 + k) ≠ 0 → (a_y (200 + k)).name ≠ "<init>" → (a_y (200 + k)).name ≠ "ordinal" → WSel (200 + k)) := by
  intro k hk
  rcases (show k = 0 ∨ k = 1 ∨ k = 2 ∨ k = 3 ∨ k = 4 ∨ k = 5 ∨ k = 6 ∨ k = 7 ∨ k = 8 ∨ k = 9 ∨ k = 10 ∨ k = 11 ∨ k = 12 ∨ k = 13 ∨ k = 14 ∨ k = 15 ∨ k = 16 ∨ k = 17 ∨ k = 18 ∨ k = 19 by omega) with h | h | h | h | h | h | h | h | h | h | h | h | h | h | h | h | h | h | h | h <;> subst h
  · exact ⟨wm_200, ws_200⟩
  · exact ⟨wm_201, ws_201⟩
  · exact ⟨wm_202, ws_202⟩
  · exact ⟨wm_203, ws_203⟩
  · exact ⟨wm_204, ws_204⟩
  · exact ⟨wm_205, ws_205⟩
  · exact ⟨wm_206, ws_206⟩
  · exact ⟨wm_207, ws_207⟩
  · exact ⟨wm_208, ws_208⟩
  · exact ⟨wm_209, ws_209⟩
  · exact ⟨wm_210, ws_210⟩
  · exact ⟨wm_211, ws_211⟩
  · exact ⟨wm_212, ws_212⟩
  · exact ⟨wm_213, ws_213⟩
  · exact ⟨wm_214, ws_214⟩
  · exact ⟨wm_215, ws_215⟩
  · exact ⟨wm_216, ws_216⟩
  · exact ⟨wm_217, ws_217⟩
  · exact ⟨wm_218, ws_218⟩
  · exact ⟨wm_219, ws_219⟩
set_option maxRecDepth 100000 in
theorem wm_220 : WMth 220 := ⟨rfl, by decide +kernel, by decide +kernel, by decide +kernel, by decide +kernel, by decide +kernel, by decide +kernel, by decide +kernel⟩
theorem ws_220 : a_rc 220 ≠ 0 → (a_y 220).name ≠ "<init>" → (a_y 220).name ≠ "ordinal" → WSel 220 := fun _ _ _ => ⟨by decide +kernel, by decide +kernel, by decide +kernel⟩
set_option maxRecDepth 100000 in
theorem wm_221 : WMth 221 := ⟨rfl, by decide +kernel, by decide +kernel, by decide +kernel, by decide +kernel, by decide +kernel, by decide +kernel, by decide +kernel⟩
theorem ws_221 : a_rc 221 ≠ 0 → (a_y 221).name ≠ "<init>" → (a_y 221).name ≠ "ordinal" → WSel 221 := fun _ _ _ => ⟨by decide +kernel, by decide +kernel, by decide +kernel⟩
set_option maxRecDepth 100000 in
theorem wm_222 : WMth 222 := ⟨rfl, by decide +kernel, by decide +kernel, by decide +kernel, by decide +kernel, by decide +kernel, by decide +kernel, by decide +kernel⟩
theorem ws_222 : a_rc 222 ≠ 0 → (a_y 222).name ≠ "<init>" → (a_y 222).name ≠ "ordinal" → WSel 222 := fun _ _ _ => ⟨by decide +kernel, by decide +kernel, by decide +kernel⟩
set_option maxRecDepth 100000 in
theorem wm_223 : WMth 223 := ⟨rfl, by decide +kernel, by decide +kernel, by decide +kernel, by decide +kernel, by decide +kernel, by decide +kernel, by decide +kernel⟩
theorem ws_223 : a_rc 223 ≠ 0 → (a_y 223).name ≠ "<init>" → (a_y 223).name ≠ "ordinal" → WSel 223 := fun h _ _ => absurd (by decide +kernel) h
set_option maxRecDepth 100000 in
theorem wm_224 : WMth 224 := ⟨rfl, by decide +kernel, by decide +kernel, by decide +kernel, by decide +kernel, by decide +kernel, by decide +kernel, by decide +kernel⟩
theorem ws_224 : a_rc 224 ≠ 0 → (a_y 224).name ≠ "<init>" → (a_y 224).name ≠ "ordinal" → WSel 224 := fun _ _ _ => ⟨by decide +kernel, by decide +kernel, by decide +kernel⟩
set_option maxRecDepth 100000 in
theorem wm_225 : WMth 225 := ⟨rfl, by decide +kernel, by decide +kernel, by decide +kernel, by decide +kernel, by decide +kernel, by decide +kernel, by decide +kernel⟩
theorem ws_225 : a_rc 225 ≠ 0 → (a_y 225).name ≠ "<init>" → (a_y 225).name ≠ "ordinal" → WSel 225 := fun _ _ _ => ⟨by decide +kernel, by decide +kernel, by decide +kernel⟩
set_option maxRecDepth 100000 in
theorem wm_226 : WMth 226 := ⟨rfl, by decide +kernel, by decide +kernel, by decide +kernel, by decide +kernel, by decide +kernel, by decide +kernel, by decide +kernel⟩
theorem ws_226 : a_rc 226 ≠ 0 → (a_y 226).name ≠ "<init>" → (a_y 226).name ≠ "ordinal" → WSel 226 := fun _ _ _ => ⟨by decide +kernel, by decide +kernel, by decide +kernel⟩
set_option maxRecDepth 100000 in
theorem wm_227 : WMth 227 := ⟨rfl, by decide +kernel, by decide +kernel, by decide +kernel, by decide +kernel, by decide +kernel, by decide +kernel, by decide +kernel⟩
theorem ws_227 : a_rc 227 ≠ 0 → (a_y 227).name ≠ "<init>" → (a_y 227).name ≠ "ordinal" → WSel 227 := fun _ _ _ => ⟨by decide +kernel, by decide +kernel, by decide +kernel⟩
set_option maxRecDepth 100000 in
theorem wm_228 : WMth 228 := ⟨rfl, by decide +kernel, by decide +kernel, by decide +kernel, by decide +kernel, by decide +kernel, by decide +kernel, by decide +kernel⟩
theorem ws_228 : a_rc 228 ≠ 0 → (a_y 228).name ≠ "<init>" → (a_y 228).name ≠ "ordinal" → WSel 228 := fun _ _ _ => ⟨by decide +kernel, by decide +kernel, by decide +kernel⟩
set_option maxRecDepth 100000 in
theorem wm_229 : WMth 229 := ⟨rfl, by decide +kernel, by decide +kernel, by decide +kernel, by decide +kernel, by decide +kernel, by decide +kernel, by decide +kernel⟩
theorem ws_229 : a_rc 229 ≠ 0 → (a_y 229).name ≠ "<init>" → (a_y 229).name ≠ "ordinal" → WSel 229 := fun _ _ _ => ⟨by decide +kernel, by decide +kernel, by decide +kernel⟩
set_option maxRecDepth 100000 in
theorem wm_230 : WMth 230 := ⟨rfl, by decide +kernel, by decide +kernel, by decide +kernel, by decide +kernel, by decide +kernel, by decide +kernel, by decide +kernel⟩
theorem ws_230 : a_rc 230 ≠ 0 → (a_y 230).name ≠ "<init>" → (a_y 230).name ≠ "ordinal" → WSel 230 := fun _ _ _ => ⟨by decide +kernel, by decide +kernel, by decide +kernel⟩
set_option maxRecDepth 100000 in
theorem wm_231 : WMth 231 := ⟨rfl, by decide +kernel, by decide +kernel, by decide +kernel, by decide +kernel, by decide +kernel, by decide +kernel, by decide +kernel⟩
theorem ws_231 : a_rc 231 ≠ 0 → (a_y 231).name ≠ "<init>" → (a_y 231).name ≠ "ordinal" → WSel 231 := fun _ _ _ => ⟨by decide +kernel, by decide +kernel, by decide +kernel⟩
set_option maxRecDepth 100000 in
theorem wm_232 : WMth 232 := ⟨rfl, by decide +kernel, by decide +kernel, by decide +kernel, by decide +kernel, by decide +kernel, by decide +kernel, by decide +kernel⟩
theorem ws_232 : a_rc 232 ≠ 0 → (a_y 232).name ≠ "<init>" → (a_y 232).name ≠ "ordinal" → WSel 232 := fun _ _ _ => ⟨by decide +kernel, by decide +kernel, by decide +kernel⟩
set_option maxRecDepth 100000 in
theorem wm_233 : WMth 233 := ⟨rfl, by decide +kernel, by decide +kernel, by decide +kernel, by decide +kernel, by decide +kernel, by decide +kernel, by decide +kernel⟩
theorem ws_233 : a_rc 233 ≠ 0 → (a_y 233).name ≠ "<init>" → (a_y 233).name ≠ "ordinal" → WSel 233 := fun _ _ _ => ⟨by decide +kernel, by decide +kernel, by decide +kernel⟩
set_option maxRecDepth 100000 in
theorem wm_234 : WMth 234 := ⟨rfl, by decide +kernel, by decide +kernel, by decide +kernel, by decide +kernel, by decide +kernel, by decide +kernel, by decide +kernel⟩
theorem ws_234 : a_rc 234 ≠ 0 → (a_y 234).name ≠ "<init>" → (a_y 234).name ≠ "ordinal" → WSel 234 := fun _ _ _ => ⟨by decide +kernel, by decide +kernel, by decide +kernel⟩
set_option maxRecDepth 100000 in
theorem wm_235 : WMth 235 := ⟨rfl, by decide +kernel, by decide +kernel, by decide +kernel, by decide +kernel, by decide +kernel, by decide +kernel, by decide +kernel⟩
theorem ws_235 : a_rc 235 ≠ 0 → (a_y 235).name ≠ "<init>" → (a_y 235).name ≠ "ordinal" → WSel 235 := fun _ _ _ => ⟨by decide +kernel, by decide +kernel, by decide +kernel⟩
set_option maxRecDepth 100000 in
theorem wm_236 : WMth 236 := ⟨rfl, by decide +kernel, by decide +kernel, by decide +kernel, by decide +kernel, by decide +kernel, by decide +kernel, by decide +kernel⟩
theorem ws_236 : a_rc 236 ≠ 0 → (a_y 236).name ≠ "<init>" → (a_y 236).name ≠ "ordinal" → WSel 236 := fun _ _ _ => ⟨by decide +kernel, by decide +kernel, by decide +kernel⟩
set_option maxRecDepth 100000 in
theorem wm_237 : WMth 237 := ⟨rfl, by decide +kernel, by decide +kernel, by decide +kernel, by decide +kernel, by decide +kernel, by decide +kernel, by decide +kernel⟩
theorem ws_237 : a_rc 237 ≠ 0 → (a_y 237).name ≠ "<init>" → (a_y 237).name ≠ "ordinal" → WSel 237 := fun h _ _ => absurd (by decide +kernel) h
set_option maxRecDepth 100000 in
theorem wm_238 : WMth 238 := ⟨rfl, by decide +kernel, by decide +kernel, by decide +kernel, by decide +kernel, by decide +kernel, by decide +kernel, by decide +kernel⟩
theorem ws_238 : a_rc 238 ≠ 0 → (a_y 238).name ≠ "<init>" → (a_y 238).name ≠ "ordinal" → WSel 238 := fun _ _ _ => ⟨by decide +kernel, by decide +kernel, by decide +kernel⟩
set_option maxRecDepth 100000 in
theorem wm_239 : WMth 239 := ⟨rfl, by decide +kernel, by decide +kernel, by decide +kernel, by decide +kernel, by decide +kernel, by decide +kernel, by decide +kernel⟩
theorem ws_239 : a_rc 239 ≠ 0 → (a_y 239).name ≠ "<init>" → (a_y 239).name ≠ "ordinal" → WSel 239 := fun h _ _ => absurd (by decide +kernel) h
theorem wmc_220 : ∀ k, k < 20 → WMth (220 + k) ∧ (a_rc (220 + k) ≠ 0 → (a_y (220 + k)).name ≠ "<init>" → (a_y (220 + k)).name ≠ "ordinal" → WSel (220 + k)) := by
  intro k hk
  rcases (show k = 0 ∨ k = 1 ∨ k = 2 ∨ k = 3 ∨ k = 4 ∨ k = 5 ∨ k = 6 ∨ k = 7 ∨ k = 8 ∨ k = 9 ∨ k = 10 ∨ k = 11 ∨ k = 12 ∨ k = 13 ∨ k = 14 ∨ k = 15 ∨ k = 16 ∨ k = 17 ∨ k = 18 ∨ k = 19 by omega) with h | h | h | h | h | h | h | h | h | h | h | h | h | h | h | h | h | h | h | h <;> subst h
  · exact ⟨wm_220, ws_220⟩
  · exact ⟨wm_221, ws_221⟩
  · exact ⟨wm_222, ws_222⟩
  · exact ⟨wm_223, ws_223⟩
  · exact ⟨wm_224, ws_224⟩
  · exact ⟨wm_225, ws_225⟩
  · exact ⟨wm_226, ws_226⟩
  · exact ⟨wm_227, ws_227⟩
  · exact ⟨wm_228, ws_228⟩
  · exact ⟨wm_229, ws_229⟩
  · exact ⟨wm_230, ws_230⟩
  · exact ⟨wm_231, ws_231⟩
  · exact ⟨wm_232, ws_232⟩
  · exact ⟨wm_233, ws_233⟩
  · exact ⟨wm_234, ws_234⟩
  · exact ⟨wm_235, ws_235⟩
  · exact ⟨wm_236, ws_236⟩
  · exact ⟨wm_237, ws_237⟩
  · exact ⟨wm_238, ws_238⟩
  · exact ⟨wm_239, ws_239⟩
