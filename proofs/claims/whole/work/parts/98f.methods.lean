/-! The methods' words: by the kernel -/
set_option maxRecDepth 100000 in
theorem wm_240 : WMth 240 := ⟨rfl, by decide +kernel, by decide +kernel, by decide +kernel, by decide +kernel, by decide +kernel, by decide +kernel, by decide +kernel⟩
theorem ws_240 : a_rc 240 ≠ 0 → (a_y 240).name ≠ "<init>" → (a_y 240).name ≠ "ordinal" → WSel 240 := fun h _ _ => absurd (by decide +kernel) h
set_option maxRecDepth 100000 in
theorem wm_241 : WMth 241 := ⟨rfl, by decide +kernel, by decide +kernel, by decide +kernel, by decide +kernel, by decide +kernel, by decide +kernel, by decide +kernel⟩
theorem ws_241 : a_rc 241 ≠ 0 → (a_y 241).name ≠ "<init>" → (a_y 241).name ≠ "ordinal" → WSel 241 := fun h _ _ => absurd (by decide +kernel) h
set_option maxRecDepth 100000 in
theorem wm_242 : WMth 242 := ⟨rfl, by decide +kernel, by decide +kernel, by decide +kernel, by decide +kernel, by decide +kernel, by decide +kernel, by decide +kernel⟩
theorem ws_242 : a_rc 242 ≠ 0 → (a_y 242).name ≠ "<init>" → (a_y 242).name ≠ "ordinal" → WSel 242 := fun _ _ _ => ⟨by decide +kernel, by decide +kernel, by decide +kernel⟩
set_option maxRecDepth 100000 in
theorem wm_243 : WMth 243 := ⟨rfl, by decide +kernel, by decide +kernel, by decide +kernel, by decide +kernel, by decide +kernel, by decide +kernel, by decide +kernel⟩
theorem ws_243 : a_rc 243 ≠ 0 → (a_y 243).name ≠ "<init>" → (a_y 243).name ≠ "ordinal" → WSel 243 := fun h _ _ => absurd (by decide +kernel) h
set_option maxRecDepth 100000 in
theorem wm_244 : WMth 244 := ⟨rfl, by decide +kernel, by decide +kernel, by decide +kernel, by decide +kernel, by decide +kernel, by decide +kernel, by decide +kernel⟩
theorem ws_244 : a_rc 244 ≠ 0 → (a_y 244).name ≠ "<init>" → (a_y 244).name ≠ "ordinal" → WSel 244 := fun h _ _ => absurd (by decide +kernel) h
set_option maxRecDepth 100000 in
theorem wm_245 : WMth 245 := ⟨rfl, by decide +kernel, by decide +kernel, by decide +kernel, by decide +kernel, by decide +kernel, by decide +kernel, by decide +kernel⟩
theorem ws_245 : a_rc 245 ≠ 0 → (a_y 245).name ≠ "<init>" → (a_y 245).name ≠ "ordinal" → WSel 245 := fun _ _ _ => ⟨by decide +kernel, by decide +kernel, by decide +kernel⟩
set_option maxRecDepth 100000 in
theorem wm_246 : WMth 246 := ⟨rfl, by decide +kernel, by decide +kernel, by decide +kernel, by decide +kernel, by decide +kernel, by decide +kernel, by decide +kernel⟩
theorem ws_246 : a_rc 246 ≠ 0 → (a_y 246).name ≠ "<init>" → (a_y 246).name ≠ "ordinal" → WSel 246 := fun _ _ _ => ⟨by decide +kernel, by decide +kernel, by decide +kernel⟩
set_option maxRecDepth 100000 in
theorem wm_247 : WMth 247 := ⟨rfl, by decide +kernel, by decide +kernel, by decide +kernel, by decide +kernel, by decide +kernel, by decide +kernel, by decide +kernel⟩
theorem ws_247 : a_rc 247 ≠ 0 → (a_y 247).name ≠ "<init>" → (a_y 247).name ≠ "ordinal" → WSel 247 := fun h _ _ => absurd (by decide +kernel) h
set_option maxRecDepth 100000 in
theorem wm_248 : WMth 248 := ⟨rfl, by decide +kernel, by decide +kernel, by decide +kernel, by decide +kernel, by decide +kernel, by decide +kernel, by decide +kernel⟩
theorem ws_248 : a_rc 248 ≠ 0 → (a_y 248).name ≠ "<init>" → (a_y 248).name ≠ "ordinal" → WSel 248 := fun h _ _ => absurd (by decide +kernel) h
set_option maxRecDepth 100000 in
theorem wm_249 : WMth 249 := ⟨rfl, by decide +kernel, by decide +kernel, by decide +kernel, by decide +kernel, by decide +kernel, by decide +kernel, by decide +kernel⟩
theorem ws_249 : a_rc 249 ≠ 0 → (a_y 249).name ≠ "<init>" → (a_y 249).name ≠ "ordinal" → WSel 249 := fun _ _ _ => ⟨by decide +kernel, by decide +kernel, by decide +kernel⟩
set_option maxRecDepth 100000 in
theorem wm_250 : WMth 250 := ⟨rfl, by decide +kernel, by decide +kernel, by decide +kernel, by decide +kernel, by decide +kernel, by decide +kernel, by decide +kernel⟩
theorem ws_250 : a_rc 250 ≠ 0 → (a_y 250).name ≠ "<init>" → (a_y 250).name ≠ "ordinal" → WSel 250 := fun _ _ _ => ⟨by decide +kernel, by decide +kernel, by decide +kernel⟩
set_option maxRecDepth 100000 in
theorem wm_251 : WMth 251 := ⟨rfl, by decide +kernel, by decide +kernel, by decide +kernel, by decide +kernel, by decide +kernel, by decide +kernel, by decide +kernel⟩
theorem ws_251 : a_rc 251 ≠ 0 → (a_y 251).name ≠ "<init>" → (a_y 251).name ≠ "ordinal" → WSel 251 := fun _ _ _ => ⟨by decide +kernel, by decide +kernel, by decide +kernel⟩
set_option maxRecDepth 100000 in
theorem wm_252 : WMth 252 := ⟨rfl, by decide +kernel, by decide +kernel, by decide +kernel, by decide +kernel, by decide +kernel, by decide +kernel, by decide +kernel⟩
theorem ws_252 : a_rc 252 ≠ 0 → (a_y 252).name ≠ "<init>" → (a_y 252).name ≠ "ordinal" → WSel 252 := fun h _ _ => absurd (by decide +kernel) h
set_option maxRecDepth 100000 in
theorem wm_253 : WMth 253 := ⟨rfl, by decide +kernel, by decide +kernel, by decide +kernel, by decide +kernel, by decide +kernel, by decide +kernel, by decide +kernel⟩
theorem ws_253 : a_rc 253 ≠ 0 → (a_y 253).name ≠ "<init>" → (a_y 253).name ≠ "ordinal" → WSel 253 := fun h _ _ => absurd (by decide +kernel) h
set_option maxRecDepth 100000 in
theorem wm_254 : WMth 254 := ⟨rfl, by decide +kernel, by decide +kernel, by decide +kernel, by decide +kernel, by decide +kernel, by decide +kernel, by decide +kernel⟩
theorem ws_254 : a_rc 254 ≠ 0 → (a_y 254).name ≠ "<init>" → (a_y 254).name ≠ "ordinal" → WSel 254 := fun _ _ _ => ⟨by decide +kernel, by decide +kernel, by decide +kernel⟩
set_option maxRecDepth 100000 in
theorem wm_255 : WMth 255 := ⟨rfl, by decide +kernel, by decide +kernel, by decide +kernel, by decide +kernel, by decide +kernel, by decide +kernel, by decide +kernel⟩
theorem ws_255 : a_rc 255 ≠ 0 → (a_y 255).name ≠ "<init>" → (a_y 255).name ≠ "ordinal" → WSel 255 := fun _ _ _ => ⟨by decide +kernel, by decide +kernel, by decide +kernel⟩
set_option maxRecDepth 100000 in
theorem wm_256 : WMth 256 := ⟨rfl, by decide +kernel, by decide +kernel, by decide +kernel, by decide +kernel, by decide +kernel, by decide +kernel, by decide +kernel⟩
theorem ws_256 : a_rc 256 ≠ 0 → (a_y 256).name ≠ "<init>" → (a_y 256).name ≠ "ordinal" → WSel 256 := fun _ _ _ => ⟨by decide +kernel, by decide +kernel, by decide +kernel⟩
set_option maxRecDepth 100000 in
theorem wm_257 : WMth 257 := ⟨rfl, by decide +kernel, by decide +kernel, by decide +kernel, by decide +kernel, by decide +kernel, by decide +kernel, by decide +kernel⟩
theorem ws_257 : a_rc 257 ≠ 0 → (a_y 257).name ≠ "<init>" → (a_y 257).name ≠ "ordinal" → WSel 257 := fun _ _ _ => ⟨by decide +kernel, by decide +kernel, by decide +kernel⟩
set_option maxRecDepth 100000 in
theorem wm_258 : WMth 258 := ⟨rfl, by decide +kernel, by decide +kernel, by decide +kernel, by decide +kernel, by decide +kernel, by decide +kernel, by decide +kernel⟩
theorem ws_258 : a_rc 258 ≠ 0 → (a_y 258).name ≠ "<init>" → (a_y 258).name ≠ "ordinal" → WSel 258 := fun _ _ _ => ⟨by decide +kernel, by decide +kernel, by decide +kernel⟩
set_option maxRecDepth 100000 in
theorem wm_259 : WMth 259 := ⟨rfl, by decide +kernel, by decide +kernel, by decide +kernel, by decide +kernel, by decide +kernel, by decide +kernel, by decide +kernel⟩
theorem ws_259 : a_rc 259 ≠ 0 → (a_y 259).name ≠ "<init>" → (a_y 259).name ≠ "ordinal" → WSel 259 := fun _ _ _ => ⟨by decide +kernel, by decide +kernel, by decide +kernel⟩
theorem wmc_240 : ∀ k, k < 20 → WMth (240 + k) ∧ (a_rc (240 + k) ≠ 0 → (a_y (240 + k)).name ≠ "<init>" → (a_y (240 + k)).name ≠ "ordinal" → WSel (240 + k)) := by
  intro k hk
  rcases (show k = 0 ∨ k = 1 ∨ k = 2 ∨ k = 3 ∨ k = 4 ∨ k = 5 ∨ k = 6 ∨ k = 7 ∨ k = 8 ∨ k = 9 ∨ k = 10 ∨ k = 11 ∨ k = 12 ∨ k = 13 ∨ k = 14 ∨ k = 15 ∨ k = 16 ∨ k = 17 ∨ k = 18 ∨ k = 19 by omega) with h | h | h | h | h | h | h | h | h | h | h | h | h | h | h | h | h | h | h | h <;> subst h
  · exact ⟨wm_240, ws_240⟩
  · exact ⟨wm_241, ws_241⟩
  · exact ⟨wm_242, ws_242⟩
  · exact ⟨wm_243, ws_243⟩
  · exact ⟨wm_244, ws_244⟩
  · exact ⟨wm_245, ws_245⟩
  · exact ⟨wm_246, ws_246⟩
  · exact ⟨wm_247, ws_247⟩
  · exact ⟨wm_248, ws_248⟩
  · exact ⟨wm_249, ws_249⟩
  · exact ⟨wm_250, ws_250⟩
  · exact ⟨wm_251, ws_251⟩
  · exact ⟨wm_252, ws_252⟩
  · exact ⟨wm_253, ws_253⟩
  · exact ⟨wm_254, ws_254⟩
  · exact ⟨wm_255, ws_255⟩
  · exact ⟨wm_256, ws_256⟩
  · exact ⟨wm_257, ws_257⟩
  · exact ⟨wm_258, ws_258⟩
  · exact ⟨wm_259, ws_259⟩
set_option maxRecDepth 100000 in
theorem wm_260 : WMth 260 := ⟨rfl, by decide +kernel, by decide +kernel, by decide +kernel, by decide +kernel, by decide +kernel, by decide +kernel, by decide +kernel⟩
theorem ws_260 : a_rc 260 ≠ 0 → (a_y 260).name ≠ "<init>" → (a_y 260).name ≠ "ordinal" → WSel 260 := fun _ _ _ => ⟨by decide +kernel, by decide +kernel, by decide +kernel⟩
set_option maxRecDepth 100000 in
theorem wm_261 : WMth 261 := ⟨rfl, by decide +kernel, by decide +kernel, by decide +kernel, by decide +kernel, by decide +kernel, by decide +kernel, by decide +kernel⟩
theorem ws_261 : a_rc 261 ≠ 0 → (a_y 261).name ≠ "<init>" → (a_y 261).name ≠ "ordinal" → WSel 261 := fun _ _ _ => ⟨by decide +kernel, by decide +kernel, by decide +kernel⟩
set_option maxRecDepth 100000 in
theorem wm_262 : WMth 262 := ⟨rfl, by decide +kernel, by decide +kernel, by decide +kernel, by decide +kernel, by decide +kernel, by decide +kernel, by decide +kernel⟩
theorem ws_262 : a_rc 262 ≠ 0 → (a_y 262).name ≠ "<init>" → (a_y 262).name ≠ "ordinal" → WSel 262 := fun _ _ _ => ⟨by decide +kernel, by decide +kernel, by decide +kernel⟩
set_option maxRecDepth 100000 in
theorem wm_263 : WMth 263 := ⟨rfl, by decide +kernel, by decide +kernel, by decide +kernel, by decide +kernel, by decide +kernel, by decide +kernel, by decide +kernel⟩
theorem ws_263 : a_rc 263 ≠ 0 → (a_y 263).name ≠ "<init>" → (a_y 263).name ≠ "ordinal" → WSel 263 := fun _ _ _ => ⟨by decide +kernel, by decide +kernel, by decide +kernel⟩
set_option maxRecDepth 100000 in
theorem wm_264 : WMth 264 := ⟨rfl, by decide +kernel, by decide +kernel, by decide +kernel, by decide +kernel, by decide +kernel, by decide +kernel, by decide +kernel⟩
theorem ws_264 : a_rc 264 ≠ 0 → (a_y 264).name ≠ "<init>" → (a_y 264).name ≠ "ordinal" → WSel 264 := fun h _ _ => absurd (by decide +kernel) h
set_option maxRecDepth 100000 in
theorem wm_265 : WMth 265 := ⟨rfl, by decide +kernel, by decide +kernel, by decide +kernel, by decide +kernel, by decide +kernel, by decide +kernel, by decide +kernel⟩
theorem ws_265 : a_rc 265 ≠ 0 → (a_y 265).name ≠ "<init>" → (a_y 265).name ≠ "ordinal" → WSel 265 := fun _ _ _ => ⟨by decide +kernel, by decide +kernel, by decide +kernel⟩
set_option maxRecDepth 100000 in
theorem wm_266 : WMth 266 := ⟨rfl, by decide +kernel, by decide +kernel, by decide +kernel, by decide +kernel, by decide +kernel, by decide +kernel, by decide +kernel⟩
theorem ws_266 : a_rc 266 ≠ 0 → (a_y 266).name ≠ "<init>" → (a_y 266).name ≠ "ordinal" → WSel 266 := fun _ _ _ => ⟨by decide +kernel, by decide +kernel, by decide +kernel⟩
set_option maxRecDepth 100000 in
theorem wm_267 : WMth 267 := ⟨rfl, by decide +kernel, by decide +kernel, by decide +kernel, by decide +kernel, by decide +kernel, by decide +kernel, by decide +kernel⟩
theorem ws_267 : a_rc 267 ≠ 0 → (a_y 267).name ≠ "<init>" → (a_y 267).name ≠ "ordinal" → WSel 267 := fun _ _ _ => ⟨by decide +kernel, by decide +kernel, by decide +kernel⟩
set_option maxRecDepth 100000 in
theorem wm_268 : WMth 268 := ⟨rfl, by decide +kernel, by decide +kernel, by decide +kernel, by decide +kernel, by decide +kernel, by decide +kernel, by decide +kernel⟩
theorem ws_268 : a_rc 268 ≠ 0 → (a_y 268).name ≠ "<init>" → (a_y 268).name ≠ "ordinal" → WSel 268 := fun _ _ _ => ⟨by decide +kernel, by decide +kernel, by decide +kernel⟩
set_option maxRecDepth 100000 in
theorem wm_269 : WMth 269 := ⟨rfl, by decide +kernel, by decide +kernel, by decide +kernel, by decide +kernel, by decide +kernel, by decide +kernel, by decide +kernel⟩
theorem ws_269 : a_rc 269 ≠ 0 → (a_y 269).name ≠ "<init>" → (a_y 269).name ≠ "ordinal" → WSel 269 := fun _ _ _ => ⟨by decide +kernel, by decide +kernel, by decide +kernel⟩
set_option maxRecDepth 100000 in
theorem wm_270 : WMth 270 := ⟨rfl, by decide +kernel, by decide +kernel, by decide +kernel, by decide +kernel, by decide +kernel, by decide +kernel, by decide +kernel⟩
theorem ws_270 : a_rc 270 ≠ 0 → (a_y 270).name ≠ "<init>" → (a_y 270).name ≠ "ordinal" → WSel 270 := fun _ _ _ => ⟨by decide +kernel, by decide +kernel, by decide +kernel⟩
set_option maxRecDepth 100000 in
theorem wm_271 : WMth 271 := ⟨rfl, by decide +kernel, by decide +kernel, by decide +kernel, by decide +kernel, by decide +kernel, by decide +kernel, by decide +kernel⟩
theorem ws_271 : a_rc 271 ≠ 0 → (a_y 271).name ≠ "<init>" → (a_y 271).name ≠ "ordinal" → WSel 271 := fun _ _ _ => ⟨by decide +kernel, by decide +kernel, by decide +kernel⟩
set_option maxRecDepth 100000 in
theorem wm_272 : WMth 272 := ⟨rfl, by decide +kernel, by decide +kernel, by decide +kernel, by decide +kernel, by decide +kernel, by decide +kernel, by decide +kernel⟩
theorem ws_272 : a_rc 272 ≠ 0 → (a_y 272).name ≠ "<init>" → (a_y 272).name ≠ "ordinal" → WSel 272 := fun _ _ _ => ⟨by decide +kernel, by decide +kernel, by decide +kernel⟩
set_option maxRecDepth 100000 in
theorem wm_273 : WMth 273 := ⟨rfl, by decide +kernel, by decide +kernel, by decide +kernel, by decide +kernel, by decide +kernel, by decide +kernel, by decide +kernel⟩
theorem ws_273 : a_rc 273 ≠ 0 → (a_y 273).name ≠ "<init>" → (a_y 273).name ≠ "ordinal" → WSel 273 := fun _ _ _ => ⟨by decide +kernel, by decide +kernel, by decide +kernel⟩
set_option maxRecDepth 100000 in
theorem wm_274 : WMth 274 := ⟨rfl, by decide +kernel, by decide +kernel, by decide +kernel, by decide +kernel, by decide +kernel, by decide +kernel, by decide +kernel⟩
theorem ws_274 : a_rc 274 ≠ 0 → (a_y 274).name ≠ "<init>" → (a_y 274).name ≠ "ordinal" → WSel 274 := fun _ _ _ => ⟨by decide +kernel, by decide +kernel, by decide +kernel⟩
set_option maxRecDepth 100000 in
theorem wm_275 : WMth 275 := ⟨rfl, by decide +kernel, by decide +kernel, by decide +kernel, by decide +kernel, by decide +kernel, by decide +kernel, by decide +kernel⟩
theorem ws_275 : a_rc 275 ≠ 0 → (a_y 275).name ≠ "<init>" → (a_y 275).name ≠ "ordinal" → WSel 275 := fun _ _ _ => ⟨by decide +kernel, by decide +kernel, by decide +kernel⟩
set_option maxRecDepth 100000 in
theorem wm_276 : WMth 276 := ⟨rfl, by decide +kernel, by decide +kernel, by decide +kernel, by decide +kernel, by decide +kernel, by decide +kernel, by decide +kernel⟩
theorem ws_276 : a_rc 276 ≠ 0 → (a_y 276).name ≠ "<init>" → (a_y 276).name ≠ "ordinal" → WSel 276 := fun _ _ _ => ⟨by decide +kernel, by decide +kernel, by decide +kernel⟩
set_option maxRecDepth 100000 in
theorem wm_277 : WMth 277 := ⟨rfl, by decide +kernel, by decide +kernel, by decide +kernel, by decide +kernel, by decide +kernel, by decide +kernel, by decide +kernel⟩
theorem ws_277 : a_rc 277 ≠ 0 → (a_y 277).name ≠ "<init>" → (a_y 277).name ≠ "ordinal" → WSel 277 := fun _ _ _ => ⟨by decide +kernel, by decide +kernel, by decide +kernel⟩
set_option maxRecDepth 100000 in
theorem wm_278 : WMth 278 := ⟨rfl, by decide +kernel, by decide +kernel, by decide +kernel, by decide +kernel, by decide +kernel, by decide +kernel, by decide +kernel⟩
theorem ws_278 : a_rc 278 ≠ 0 → (a_y 278).name ≠ "<init>" → (a_y 278).name ≠ "ordinal" → WSel 278 := fun _ _ _ => ⟨by decide +kernel, by decide +kernel, by decide +kernel⟩
set_option maxRecDepth 100000 in
theorem wm_279 : WMth 279 := ⟨rfl, by decide +kernel, by decide +kernel, by decide +kernel, by decide +kernel, by decide +kernel, by decide +kernel, by decide +kernel⟩
theorem ws_279 : a_rc 279 ≠ 0 → (a_y 279).name ≠ "<init>" → (a_y 279).name ≠ "ordinal" → WSel 279 := fun _ _ _ => ⟨by decide +kernel, by decide +kernel, by decide +kernel⟩
theorem wmc_260 : ∀ k, k < 20 → WMth (260 + k) ∧ (a_rc (260 + k) ≠ 0 → (a_y (260 + k)).name ≠ "<init>" → (a_y (260 + k)).name ≠ "ordinal" → WSel (260 + k)) := by
  intro k hk
  rcases (show k = 0 ∨ k = 1 ∨ k = 2 ∨ k = 3 ∨ k = 4 ∨ k = 5 ∨ k = 6 ∨ k = 7 ∨ k = 8 ∨ k = 9 ∨ k = 10 ∨ k = 11 ∨ k = 12 ∨ k = 13 ∨ k = 14 ∨ k = 15 ∨ k = 16 ∨ k = 17 ∨ k = 18 ∨ k = 19 by omega) with h | h | h | h | h | h | h | h | h | h | h | h | h | h | h | h | h | h | h | h <;> subst h
  · exact ⟨wm_260, ws_260⟩
  · exact ⟨wm_261, ws_261⟩
  · exact ⟨wm_262, ws_262⟩
  · exact ⟨wm_263, ws_263⟩
  · exact ⟨wm_264, ws_264⟩
  · exact ⟨wm_265, ws_265⟩
  · exact ⟨wm_266, ws_266⟩
  · exact ⟨wm_267, ws_267⟩
  · exact ⟨wm_268, ws_268⟩
  · exact ⟨wm_269, ws_269⟩
  · exact ⟨wm_270, ws_270⟩
  · exact ⟨wm_271, ws_271⟩
  · exact ⟨wm_272, ws_272⟩
  · exact ⟨wm_273, ws_273⟩
  · exact ⟨wm_274, ws_274⟩
  · exact ⟨wm_275, ws_275⟩
  · exact ⟨wm_276, ws_276⟩
  · exact ⟨wm_277, ws_277⟩
  · exact ⟨wm_278, ws_278⟩
  · exact ⟨wm_279, ws_279⟩
set_option maxRecDepth 100000 in
theorem wm_280 : WMth 280 := ⟨rfl, by decide +kernel, by decide +kernel, by decide +kernel, by decide +kernel, by decide +kernel, by decide +kernel, by decide +kernel⟩
theorem ws_280 : a_rc 280 ≠ 0 → (a_y 280).name ≠ "<init>" → (a_y 280).name ≠ "ordinal" → WSel 280 := fun _ _ _ => ⟨by decide +kernel, by decide +kernel, by decide +kernel⟩
set_option maxRecDepth 100000 in
theorem wm_281 : WMth 281 := ⟨rfl, by decide +kernel, by decide +kernel, by decide +kernel, by decide +kernel, by decide +kernel, by decide +kernel, by decide +kernel⟩
theorem ws_281 : a_rc 281 ≠ 0 → (a_y 281).name ≠ "<init>" → (a_y 281).name ≠ "ordinal" → WSel 281 := fun _ _ _ => ⟨by decide +kernel, by decide +kernel, by decide +kernel⟩
set_option maxRecDepth 100000 in
theorem wm_282 : WMth 282 := ⟨rfl, by decide +kernel, by decide +kernel, by decide +kernel, by decide +kernel, by decide +kernel, by decide +kernel, by decide +kernel⟩
theorem ws_282 : a_rc 282 ≠ 0 → (a_y 282).name ≠ "<init>" → (a_y 282).name ≠ "ordinal" → WSel 282 := fun _ _ _ => ⟨by decide +kernel, by decide +kernel, by decide +kernel⟩
set_option maxRecDepth 100000 in
theorem wm_283 : WMth 283 := ⟨rfl, by decide +kernel, by decide +kernel, by decide +kernel, by decide +kernel, by decide +kernel, by decide +kernel, by decide +kernel⟩
theorem ws_283 : a_rc 283 ≠ 0 → (a_y 283).name ≠ "<init>" → (a_y 283).name ≠ "ordinal" → WSel 283 := fun _ _ _ => ⟨by decide +kernel, by decide +kernel, by decide +kernel⟩
set_option maxRecDepth 100000 in
theorem wm_284 : WMth 284 := ⟨rfl, by decide +kernel, by decide +kernel, by decide +kernel, by decide +kernel, by decide +kernel, by decide +kernel, by decide +kernel⟩
theorem ws_284 : a_rc 284 ≠ 0 → (a_y 284).name ≠ "<init>" → (a_y 284).name ≠ "ordinal" → WSel 284 := fun _ _ _ => ⟨by decide +kernel, by decide +kernel, by decide +kernel⟩
set_option maxRecDepth 100000 in
theorem wm_285 : WMth 285 := ⟨rfl, by decide +kernel, by decide +kernel, by decide +kernel, by decide +kernel, by decide +kernel, by decide +kernel, by decide +kernel⟩
theorem ws_285 : a_rc 285 ≠ 0 → (a_y 285).name ≠ "<init>" → (a_y 285).name ≠ "ordinal" → WSel 285 := fun _ _ _ => ⟨by decide +kernel, by decide +kernel, by decide +kernel⟩
set_option maxRecDepth 100000 in
theorem wm_286 : WMth 286 := ⟨rfl, by decide +kernel, by decide +kernel, by decide +kernel, by decide +kernel, by decide +kernel, by decide +kernel, by decide +kernel⟩
theorem ws_286 : a_rc 286 ≠ 0 → (a_y 286).name ≠ "<init>" → (a_y 286).name ≠ "ordinal" → WSel 286 := fun _ _ _ => ⟨by decide +kernel, by decide +kernel, by decide +kernel⟩
set_option maxRecDepth 100000 in
theorem wm_287 : WMth 287 := ⟨rfl, by decide +kernel, by decide +kernel, by decide +kernel, by decide +kernel, by decide +kernel, by decide +kernel, by decide +kernel⟩
theorem ws_287 : a_rc 287 ≠ 0 → (a_y 287).name ≠ "<init>" → (a_y 287).name ≠ "ordinal" → WSel 287 := fun h _ _ => absurd (by decide +kernel) h
set_option maxRecDepth 100000 in
theorem wm_288 : WMth 288 := ⟨rfl, by decide +kernel, by decide +kernel, by decide +kernel, by decide +kernel, by decide +kernel, by decide +kernel, by decide +kernel⟩
theorem ws_288 : a_rc 288 ≠ 0 → (a_y 288).name ≠ "<init>" → (a_y 288).name ≠ "ordinal" → WSel 288 := fun _ _ _ => ⟨by decide +kernel, by decide +kernel, by decide +kernel⟩
set_option maxRecDepth 100000 in
theorem wm_289 : WMth 289 := ⟨rfl, by decide +kernel, by decide +kernel, by decide +kernel, by decide +kernel, by decide +kernel, by decide +kernel, by decide +kernel⟩
theorem ws_289 : a_rc 289 ≠ 0 → (a_y 289).name ≠ "<init>" → (a_y 289).name ≠ "ordinal" → WSel 289 := fun _ _ _ => ⟨by decide +kernel, by decide +kernel, by decide +kernel⟩
set_option maxRecDepth 100000 in
theorem wm_290 : WMth 290 := ⟨rfl, by decide +kernel, by decide +kernel, by decide +kernel, by decide +kernel, by decide +kernel, by decide +kernel, by decide +kernel⟩
theorem ws_290 : a_rc 290 ≠ 0 → (a_y 290).name ≠ "<init>" → (a_y 290).name ≠ "ordinal" → WSel 290 := fun _ _ _ => ⟨by decide +kernel, by decide +kernel, by decide +kernel⟩
set_option maxRecDepth 100000 in
theorem wm_291 : WMth 291 := ⟨rfl, by decide +kernel, by decide +kernel, by decide +kernel, by decide +kernel, by decide +kernel, by decide +kernel, by decide +kernel⟩
theorem ws_291 : a_rc 291 ≠ 0 → (a_y 291).name ≠ "<init>" → (a_y 291).name ≠ "ordinal" → WSel 291 := fun _ _ _ => ⟨by decide +kernel, by decide +kernel, by decide +kernel⟩
set_option maxRecDepth 100000 in
theorem wm_292 : WMth 292 := ⟨rfl, by decide +kernel, by decide +kernel, by decide +kernel, by decide +kernel, by decide +kernel, by decide +kernel, by decide +kernel⟩
theorem ws_292 : a_rc 292 ≠ 0 → (a_y 292).name ≠ "<init>" → (a_y 292).name ≠ "ordinal" → WSel 292 := fun h _ _ => absurd (by decide +kernel) h
set_option maxRecDepth 100000 in
theorem wm_293 : WMth 293 := ⟨rfl, by decide +kernel, by decide +kernel, by decide +kernel, by decide +kernel, by decide +kernel, by decide +kernel, by decide +kernel⟩
theorem ws_293 : a_rc 293 ≠ 0 → (a_y 293).name ≠ "<init>" → (a_y 293).name ≠ "ordinal" → WSel 293 := fun _ _ _ => ⟨by decide +kernel, by decide +kernel, by decide +kernel⟩
set_option maxRecDepth 100000 in
theorem wm_294 : WMth 294 := ⟨rfl, by decide +kernel, by decide +kernel, by decide +kernel, by decide +kernel, by decide +kernel, by decide +kernel, by decide +kernel⟩
theorem ws_294 : a_rc 294 ≠ 0 → (a_y 294).name ≠ "<init>" → (a_y 294).name ≠ "ordinal" → WSel 294 := fun _ _ _ => ⟨by decide +kernel, by decide +kernel, by decide +kernel⟩
set_option maxRecDepth 100000 in
theorem wm_295 : WMth 295 := ⟨rfl, by decide +kernel, by decide +kernel, by decide +kernel, by decide +kernel, by decide +kernel, by decide +kernel, by decide +kernel⟩
theorem ws_295 : a_rc 295 ≠ 0 → (a_y 295).name ≠ "<init>" → (a_y 295).name ≠ "ordinal" → WSel 295 := fun _ _ _ => ⟨by decide +kernel, by decide +kernel, by decide +kernel⟩
set_option maxRecDepth 100000 in
theorem wm_296 : WMth 296 := ⟨rfl, by decide +kernel, by decide +kernel, by decide +kernel, by decide +kernel, by decide +kernel, by decide +kernel, by decide +kernel⟩
theorem ws_296 : a_rc 296 ≠ 0 → (a_y 296).name ≠ "<init>" → (a_y 296).name ≠ "ordinal" → WSel 296 := fun h _ _ => absurd (by decide +kernel) h
set_option maxRecDepth 100000 in
theorem wm_297 : WMth 297 := ⟨rfl, by decide +kernel, by decide +kernel, by decide +kernel, by decide +kernel, by decide +kernel, by decide +kernel, by decide +kernel⟩
theorem ws_297 : a_rc 297 ≠ 0 → (a_y 297).name ≠ "<init>" → (a_y 297).name ≠ "ordinal" → WSel 297 := fun _ _ _ => ⟨by decide +kernel, by decide +kernel, by decide +kernel⟩
set_option maxRecDepth 100000 in
theorem wm_298 : WMth 298 := ⟨rfl, by decide +kernel, by decide +kernel, by decide +kernel, by decide +kernel, by decide +kernel, by decide +kernel, by decide +kernel⟩
theorem ws_298 : a_rc 298 ≠ 0 → (a_y 298).name ≠ "<init>" → (a_y 298).name ≠ "ordinal" → WSel 298 := fun _ _ _ => ⟨by decide +kernel, by decide +kernel, by decide +kernel⟩
set_option maxRecDepth 100000 in
theorem wm_299 : WMth 299 := ⟨rfl, by decide +kernel, by decide +kernel, by decide +kernel, by decide +kernel, by decide +kernel, by decide +kernel, by decide +kernel⟩
theorem ws_299 : a_rc 299 ≠ 0 → (a_y 299).name ≠ "<init>" → (a_y 299).name ≠ "ordinal" → WSel 299 := fun _ _ _ => ⟨by decide +kernel, by decide +kernel, by decide +kernel⟩
theorem wmc_280 : ∀ k, k < 20 → WMth (280 + k) ∧ (a_rc (280 + k) ≠ 0 → (a_y (280 + k)).name ≠ "<init>" → (a_y (280 + k)).name ≠ "ordinal" → WSel (280 + k)) := by
  intro k hk
  rcases (show k = 0 ∨ k = 1 ∨ k = 2 ∨ k = 3 ∨ k = 4 ∨ k = 5 ∨ k = 6 ∨ k = 7 ∨ k = 8 ∨ k = 9 ∨ k = 10 ∨ k = 11 ∨ k = 12 ∨ k = 13 ∨ k = 14 ∨ k = 15 ∨ k = 16 ∨ k = 17 ∨ k = 18 ∨ k = 19 by omega) with h | h | h | h | h | h | h | h | h | h | h | h | h | h | h | h | h | h | h | h <;> subst h
  · exact ⟨wm_280, ws_280⟩
  · exact ⟨wm_281, ws_281⟩
  · exact ⟨wm_282, ws_282⟩
  · exact ⟨wm_283, ws_283⟩
  · exact ⟨wm_284, ws_284⟩
  · exact ⟨wm_285, ws_285⟩
  · exact ⟨wm_286, ws_286⟩
  · exact ⟨wm_287, ws_287⟩
  · exact ⟨wm_288, ws_288⟩
  · exact ⟨wm_289, ws_289⟩
  · exact ⟨wm_290, ws_290⟩
  · exact ⟨wm_291, ws_291⟩
  · exact ⟨wm_292, ws_292⟩
  · exact ⟨wm_293, ws_293⟩
  · exact ⟨wm_294, ws_294⟩
  · exact ⟨wm_295, ws_295⟩
  · exact ⟨wm_296, ws_296⟩
  · exact ⟨wm_297, ws_297⟩
  · exact ⟨wm_298, ws_298⟩
  · exact ⟨wm_299, ws_299⟩
set_option maxRecDepth 100000 in
theorem wm_300 : WMth 300 := ⟨rfl, by decide +kernel, by decide +kernel, by decide +kernel, by decide +kernel, by decide +kernel, by decide +kernel, by decide +kernel⟩
theorem ws_300 : a_rc 300 ≠ 0 → (a_y 300).name ≠ "<init>" → (a_y 300).name ≠ "ordinal" → WSel 300 := fun h _ _ => absurd (by decide +kernel) h
set_option maxRecDepth 100000 in
theorem wm_301 : WMth 301 := ⟨rfl, by decide +kernel, by decide +kernel, by decide +kernel, by decide +kernel, by decide +kernel, by decide +kernel, by decide +kernel⟩
theorem ws_301 : a_rc 301 ≠ 0 → (a_y 301).name ≠ "<init>" → (a_y 301).name ≠ "ordinal" → WSel 301 := fun _ _ _ => ⟨by decide +kernel, by decide +kernel, by decide +kernel⟩
set_option maxRecDepth 100000 in
theorem wm_302 : WMth 302 := ⟨rfl, by decide +kernel, by decide +kernel, by decide +kernel, by decide +kernel, by decide +kernel, by decide +kernel, by decide +kernel⟩
theorem ws_302 : a_rc 302 ≠ 0 → (a_y 302).name ≠ "<init>" → (a_y 302).name ≠ "ordinal" → WSel 302 := fun _ _ _ => ⟨by decide +kernel, by decide +kernel, by decide +kernel⟩
set_option maxRecDepth 100000 in
theorem wm_303 : WMth 303 := ⟨rfl, by decide +kernel, by decide +kernel, by decide +kernel, by decide +kernel, by decide +kernel, by decide +kernel, by decide +kernel⟩
theorem ws_303 : a_rc 303 ≠ 0 → (a_y 303).name ≠ "<init>" → (a_y 303).name ≠ "ordinal" → WSel 303 := fun _ _ _ => ⟨by decide +kernel, by decide +kernel, by decide +kernel⟩
set_option maxRecDepth 100000 in
theorem wm_304 : WMth 304 := ⟨rfl, by decide +kernel, by decide +kernel, by decide +kernel, by decide +kernel, by decide +kernel, by decide +kernel, by decide +kernel⟩
theorem ws_304 : a_rc 304 ≠ 0 → (a_y 304).name ≠ "<init>" → (a_y 304).name ≠ "ordinal" → WSel 304 := fun _ _ _ => ⟨by decide +kernel, by decide +kernel, by decide +kernel⟩
set_option maxRecDepth 100000 in
theorem wm_305 : WMth 305 := ⟨rfl, by decide +kernel, by decide +kernel, by decide +kernel, by decide +kernel, by decide +kernel, by decide +kernel, by decide +kernel⟩
theorem ws_305 : a_rc 305 ≠ 0 → (a_y 305).name ≠ "<init>" → (a_y 305).name ≠ "ordinal" → WSel 305 := fun _ _ _ => ⟨by decide +kernel, by decide +kernel, by decide +kernel⟩
set_option maxRecDepth 100000 in
theorem wm_306 : WMth 306 := ⟨rfl, by decide +kernel, by decide +kernel, by decide +kernel, by decide +kernel, by decide +kernel, by decide +kernel, by decide +kernel⟩
theorem ws_306 : a_rc 306 ≠ 0 → (a_y 306).name ≠ "<init>" → (a_y 306).name ≠ "ordinal" → WSel 306 := fun _ _ _ => ⟨by decide +kernel, by decide +kernel, by decide +kernel⟩
set_option maxRecDepth 100000 in
theorem wm_307 : WMth 307 := ⟨rfl, by decide +kernel, by decide +kernel, by decide +kernel, by decide +kernel, by decide +kernel, by decide +kernel, by decide +kernel⟩
theorem ws_307 : a_rc 307 ≠ 0 → (a_y 307).name ≠ "<init>" → (a_y 307).name ≠ "ordinal" → WSel 307 := fun _ _ _ => ⟨by decide +kernel, by decide +kernel, by decide +kernel⟩
set_option maxRecDepth 100000 in
theorem wm_308 : WMth 308 := ⟨rfl, by decide +kernel, by decide +kernel, by decide +kernel, by decide +kernel, by decide +kernel, by decide +kernel, by decide +kernel⟩
theorem ws_308 : a_rc 308 ≠ 0 → (a_y 308).name ≠ "<init>" → (a_y 308).name ≠ "ordinal" → WSel 308 := fun _ _ _ => ⟨by decide +kernel, by decide +kernel, by decide +kernel⟩
set_option maxRecDepth 100000 in
theorem wm_309 : WMth 309 := ⟨rfl, by decide +kernel, by decide +kernel, by decide +kernel, by decide +kernel, by decide +kernel, by decide +kernel, by decide +kernel⟩
theorem ws_309 : a_rc 309 ≠ 0 → (a_y 309).name ≠ "<init>" → (a_y 309).name ≠ "ordinal" → WSel 309 := fun _ _ _ => ⟨by decide +kernel, by decide +kernel, by decide +kernel⟩
set_option maxRecDepth 100000 in
theorem wm_310 : WMth 310 := ⟨rfl, by decide +kernel, by decide +kernel, by decide +kernel, by decide +kernel, by decide +kernel, by decide +kernel, by decide +kernel⟩
theorem ws_310 : a_rc 310 ≠ 0 → (a_y 310).name ≠ "<init>" → (a_y 310).name ≠ "ordinal" → WSel 310 := fun _ _ _ => ⟨by decide +kernel, by decide +kernel, by decide +kernel⟩
set_option maxRecDepth 100000 in
theorem wm_311 : WMth 311 := ⟨rfl, by decide +kernel, by decide +kernel, by decide +kernel, by decide +kernel, by decide +kernel, by decide +kernel, by decide +kernel⟩
theorem ws_311 : a_rc 311 ≠ 0 → (a_y 311).name ≠ "<init>" → (a_y 311).name ≠ "ordinal" → WSel 311 := fun _ _ _ => ⟨by decide +kernel, by decide +kernel, by decide +kernel⟩
set_option maxRecDepth 100000 in
theorem wm_312 : WMth 312 := ⟨rfl, by decide +kernel, by decide +kernel, by decide +kernel, by decide +kernel, by decide +kernel, by decide +kernel, by decide +kernel⟩
theorem ws_312 : a_rc 312 ≠ 0 → (a_y 312).name ≠ "<init>" → (a_y 312).name ≠ "ordinal" → WSel 312 := fun _ _ _ => ⟨by decide +kernel, by decide +kernel, by decide +kernel⟩
set_option maxRecDepth 100000 in
theorem wm_313 : WMth 313 := ⟨rfl, by decide +kernel, by decide +kernel, by decide +kernel, by decide +kernel, by decide +kernel, by decide +kernel, by decide +kernel⟩
theorem ws_313 : a_rc 313 ≠ 0 → (a_y 313).name ≠ "<init>" → (a_y 313).name ≠ "ordinal" → WSel 313 := fun _ _ _ => ⟨by decide +kernel, by decide +kernel, by decide +kernel⟩
set_option maxRecDepth 100000 in
theorem wm_314 : WMth 314 := ⟨rfl, by decide +kernel, by decide +kernel, by decide +kernel, by decide +kernel, by decide +kernel, by decide +kernel, by decide +kernel⟩
theorem ws_314 : a_rc 314 ≠ 0 → (a_y 314).name ≠ "<init>" → (a_y 314).name ≠ "ordinal" → WSel 314 := fun _ _ _ => ⟨by decide +kernel, by decide +kernel, by decide +kernel⟩
set_option maxRecDepth 100000 in
theorem wm_315 : WMth 315 := ⟨rfl, by decide +kernel, by decide +kernel, by decide +kernel, by decide +kernel, by decide +kernel, by decide +kernel, by decide +kernel⟩
theorem ws_315 : a_rc 315 ≠ 0 → (a_y 315).name ≠ "<init>" → (a_y 315).name ≠ "ordinal" → WSel 315 := fun _ _ _ => ⟨by decide +kernel, by decide +kernel, by decide +kernel⟩
set_option maxRecDepth 100000 in
theorem wm_316 : WMth 316 := ⟨rfl, by decide +kernel, by decide +kernel, by decide +kernel, by decide +kernel, by decide +kernel, by decide +kernel, by decide +kernel⟩
theorem ws_316 : a_rc 316 ≠ 0 → (a_y 316).name ≠ "<init>" → (a_y 316).name ≠ "ordinal" → WSel 316 := fun _ _ _ => ⟨by decide +kernel, by decide +kernel, by decide +kernel⟩
set_option maxRecDepth 100000 in
theorem wm_317 : WMth 317 := ⟨rfl, by decide +kernel, by decide +kernel, by decide +kernel, by decide +kernel, by decide +kernel, by decide +kernel, by decide +kernel⟩
theorem ws_317 : a_rc 317 ≠ 0 → (a_y 317).name ≠ "<init>" → (a_y 317).name ≠ "ordinal" → WSel 317 := fun _ _ _ => ⟨by decide +kernel, by decide +kernel, by decide +kernel⟩
set_option maxRecDepth 100000 in
theorem wm_318 : WMth 318 := ⟨rfl, by decide +kernel, by decide +kernel, by decide +kernel, by decide +kernel, by decide +kernel, by decide +kernel, by decide +kernel⟩
theorem ws_318 : a_rc 318 ≠ 0 → (a_y 318).name ≠ "<init>" → (a_y 318).name ≠ "ordinal" → WSel 318 := fun _ _ _ => ⟨by decide +kernel, by decide +kernel, by decide +kernel⟩
set_option maxRecDepth 100000 in
theorem wm_319 : WMth 319 := ⟨rfl, by decide +kernel, by decide +kernel, by decide +kernel, by decide +kernel, by decide +kernel, by decide +kernel, by decide +kernel⟩
theorem ws_319 : a_rc 319 ≠ 0 → (a_y 319).name ≠ "<init>" → (a_y 319).name ≠ "ordinal" → WSel 319 := fun _ _ _ => ⟨by decide +kernel, by decide +kernel, by decide +kernel⟩
theorem wmc_300 : ∀ k, k < 20 → WMth (300 + k) ∧ (a_rc (300 + k) ≠ 0 → (a_y (300 + k)).name ≠ "<init>" → (a_y (300 + k)).name ≠ "ordinal" → WSel (300 + k)) := by
  intro k hk
  rcases (show k = 0 ∨ k = 1 ∨ k = 2 ∨ k = 3 ∨ k = 4 ∨ k = 5 ∨ k = 6 ∨ k = 7 ∨ k = 8 ∨ k = 9 ∨ k = 10 ∨ k = 11 ∨ k = 12 ∨ k = 13 ∨ k = 14 ∨ k = 15 ∨ k = 16 ∨ k = 17 ∨ k = 18 ∨ k = 19 by omega) with h | h | h | h | h | h | h | h | h | h | h | h | h | h | h | h | h | h | h | h <;> subst h
  · exact ⟨wm_300, ws_300⟩
  · exact ⟨wm_301, ws_301⟩
  · exact ⟨wm_302, ws_302⟩
  · exact ⟨wm_303, ws_303⟩
  · exact ⟨wm_304, ws_304⟩
  · exact ⟨wm_305, ws_305⟩
  · exact ⟨wm_306, ws_306⟩
  · exact ⟨wm_307, ws_307⟩
  · exact ⟨wm_308, ws_308⟩
  · exact ⟨wm_309, ws_309⟩
  · exact ⟨wm_310, ws_310⟩
  · exact ⟨wm_311, ws_311⟩
  · exact ⟨wm_312, ws_312⟩
  · exact ⟨wm_313, ws_313⟩
  · exact ⟨wm_314, ws_314⟩
  · exact ⟨wm_315, ws_315⟩
  · exact ⟨wm_316, ws_316⟩
  · exact ⟨wm_317, ws_317⟩
  · exact ⟨wm_318, ws_318⟩
  · exact ⟨wm_319, ws_319⟩
set_option maxRecDepth 100000 in
theorem wm_320 : WMth 320 := ⟨rfl, by decide +kernel, by decide +kernel, by decide +kernel, by decide +kernel, by decide +kernel, by decide +kernel, by decide +kernel⟩
theorem ws_320 : a_rc 320 ≠ 0 → (a_y 320).name ≠ "<init>" → (a_y 320).name ≠ "ordinal" → WSel 320 := fun _ _ _ => ⟨by decide +kernel, by decide +kernel, by decide +kernel⟩
set_option maxRecDepth 100000 in
theorem wm_321 : WMth 321 := ⟨rfl, by decide +kernel, by decide +kernel, by decide +kernel, by decide +kernel, by decide +kernel, by decide +kernel, by decide +kernel⟩
theorem ws_321 : a_rc 321 ≠ 0 → (a_y 321).name ≠ "<init>" → (a_y 321).name ≠ "ordinal" → WSel 321 := fun _ _ _ => ⟨by decide +kernel, by decide +kernel, by decide +kernel⟩
set_option maxRecDepth 100000 in
theorem wm_322 : WMth 322 := ⟨rfl, by decide +kernel, by decide +kernel, by decide +kernel, by decide +kernel, by decide +kernel, by decide +kernel, by decide +kernel⟩
theorem ws_322 : a_rc 322 ≠ 0 → (a_y 322).name ≠ "<init>" → (a_y 322).name ≠ "ordinal" → WSel 322 := fun _ _ _ => ⟨by decide +kernel, by decide +kernel, by decide +kernel⟩
set_option maxRecDepth 100000 in
theorem wm_323 : WMth 323 := ⟨rfl, by decide +kernel, by decide +kernel, by decide +kernel, by decide +kernel, by decide +kernel, by decide +kernel, by decide +kernel⟩
theorem ws_323 : a_rc 323 ≠ 0 → (a_y 323).name ≠ "<init>" → (a_y 323).name ≠ "ordinal" → WSel 323 := fun _ _ _ => ⟨by decide +kernel, by decide +kernel, by decide +kernel⟩
set_option maxRecDepth 100000 in
theorem wm_324 : WMth 324 := ⟨rfl, by decide +kernel, by decide +kernel, by decide +kernel, by decide +kernel, by decide +kernel, by decide +kernel, by decide +kernel⟩
theorem ws_324 : a_rc 324 ≠ 0 → (a_y 324).name ≠ "<init>" → (a_y 324).name ≠ "ordinal" → WSel 324 := fun _ _ _ => ⟨by decide +kernel, by decide +kernel, by decide +kernel⟩
set_option maxRecDepth 100000 in
theorem wm_325 : WMth 325 := ⟨rfl, by decide +kernel, by decide +kernel, by decide +kernel, by decide +kernel, by decide +kernel, by decide +kernel, by decide +kernel⟩
theorem ws_325 : a_rc 325 ≠ 0 → (a_y 325).name ≠ "<init>" → (a_y 325).name ≠ "ordinal" → WSel 325 := fun _ _ _ => ⟨by decide +kernel, by decide +kernel, by decide +kernel⟩
set_option maxRecDepth 100000 in
theorem wm_326 : WMth 326 := ⟨rfl, by decide +kernel, by decide +kernel, by decide +kernel, by decide +kernel, by decide +kernel, by decide +kernel, by decide +kernel⟩
theorem ws_326 : a_rc 326 ≠ 0 → (a_y 326).name ≠ "<init>" → (a_y 326).name ≠ "ordinal" → WSel 326 := fun _ _ _ => ⟨by decide +kernel, by decide +kernel, by decide +kernel⟩
set_option maxRecDepth 100000 in
theorem wm_327 : WMth 327 := ⟨rfl, by decide +kernel, by decide +kernel, by decide +kernel, by decide +kernel, by decide +kernel, by decide +kernel, by decide +kernel⟩
theorem ws_327 : a_rc 327 ≠ 0 → (a_y 327).name ≠ "<init>" → (a_y 327).name ≠ "ordinal" → WSel 327 := fun _ _ _ => ⟨by decide +kernel, by decide +kernel, by decide +kernel⟩
set_option maxRecDepth 100000 in
theorem wm_328 : WMth 328 := ⟨rfl, by decide +kernel, by decide +kernel, by decide +kernel, by decide +kernel, by decide +kernel, by decide +kernel, by decide +kernel⟩
theorem ws_328 : a_rc 328 ≠ 0 → (a_y 328).name ≠ "<init>" → (a_y 328).name ≠ "ordinal" → WSel 328 := fun h _ _ => absurd (by decide +kernel) h
set_option maxRecDepth 100000 in
theorem wm_329 : WMth 329 := ⟨rfl, by decide +kernel, by decide +kernel, by decide +kernel, by decide +kernel, by decide +kernel, by decide +kernel, by decide +kernel⟩
theorem ws_329 : a_rc 329 ≠ 0 → (a_y 329).name ≠ "<init>" → (a_y 329).name ≠ "ordinal" → WSel 329 := fun _ _ _ => ⟨by decide +kernel, by decide +kernel, by decide +kernel⟩
set_option maxRecDepth 100000 in
theorem wm_330 : WMth 330 := ⟨rfl, by decide +kernel, by decide +kernel, by decide +kernel, by decide +kernel, by decide +kernel, by decide +kernel, by decide +kernel⟩
theorem ws_330 : a_rc 330 ≠ 0 → (a_y 330).name ≠ "<init>" → (a_y 330).name ≠ "ordinal" → WSel 330 := fun _ _ _ => ⟨by decide +kernel, by decide +kernel, by decide +kernel⟩
set_option maxRecDepth 100000 in
theorem wm_331 : WMth 331 := ⟨rfl, by decide +kernel, by decide +kernel, by decide +kernel, by decide +kernel, by decide +kernel, by decide +kernel, by decide +kernel⟩
theorem ws_331 : a_rc 331 ≠ 0 → (a_y 331).name ≠ "<init>" → (a_y 331).name ≠ "ordinal" → WSel 331 := fun _ _ _ => ⟨by decide +kernel, by decide +kernel, by decide +kernel⟩
set_option maxRecDepth 100000 in
theorem wm_332 : WMth 332 := ⟨rfl, by decide +kernel, by decide +kernel, by decide +kernel, by decide +kernel, by decide +kernel, by decide +kernel, by decide +kernel⟩
theorem ws_332 : a_rc 332 ≠ 0 → (a_y 332).name ≠ "<init>" → (a_y 332).name ≠ "ordinal" → WSel 332 := fun _ _ _ => ⟨by decide +kernel, by decide +kernel, by decide +kernel⟩
set_option maxRecDepth 100000 in
theorem wm_333 : WMth 333 := ⟨rfl, by decide +kernel, by decide +kernel, by decide +kernel, by decide +kernel, by decide +kernel, by decide +kernel, by decide +kernel⟩
theorem ws_333 : a_rc 333 ≠ 0 → (a_y 333).name ≠ "<init>" → (a_y 333).name ≠ "ordinal" → WSel 333 := fun _ _ _ => ⟨by decide +kernel, by decide +kernel, by decide +kernel⟩
set_option maxRecDepth 100000 in
theorem wm_334 : WMth 334 := ⟨rfl, by decide +kernel, by decide +kernel, by decide +kernel, by decide +kernel, by decide +kernel, by decide +kernel, by decide +kernel⟩
theorem ws_334 : a_rc 334 ≠ 0 → (a_y 334).name ≠ "<init>" → (a_y 334).name ≠ "ordinal" → WSel 334 := fun _ _ _ => ⟨by decide +kernel, by decide +kernel, by decide +kernel⟩
set_option maxRecDepth 100000 in
theorem wm_335 : WMth 335 := ⟨rfl, by decide +kernel, by decide +kernel, by decide +kernel, by decide +kernel, by decide +kernel, by decide +kernel, by decide +kernel⟩
theorem ws_335 : a_rc 335 ≠ 0 → (a_y 335).name ≠ "<init>" → (a_y 335).name ≠ "ordinal" → WSel 335 := fun _ _ _ => ⟨by decide +kernel, by decide +kernel, by decide +kernel⟩
set_option maxRecDepth 100000 in
theorem wm_336 : WMth 336 := ⟨rfl, by decide +kernel, by decide +kernel, by decide +kernel, by decide +kernel, by decide +kernel, by decide +kernel, by decide +kernel⟩
theorem ws_336 : a_rc 336 ≠ 0 → (a_y 336).name ≠ "<init>" → (a_y 336).name ≠ "ordinal" → WSel 336 := fun _ _ _ => ⟨by decide +kernel, by decide +kernel, by decide +kernel⟩
set_option maxRecDepth 100000 in
theorem wm_337 : WMth 337 := ⟨rfl, by decide +kernel, by decide +kernel, by decide +kernel, by decide +kernel, by decide +kernel, by decide +kernel, by decide +kernel⟩
theorem ws_337 : a_rc 337 ≠ 0 → (a_y 337).name ≠ "<init>" → (a_y 337).name ≠ "ordinal" → WSel 337 := fun _ _ _ => ⟨by decide +kernel, by decide +kernel, by decide +kernel⟩
set_option maxRecDepth 100000 in
theorem wm_338 : WMth 338 := ⟨rfl, by decide +kernel, by decide +kernel, by decide +kernel, by decide +kernel, by decide +kernel, by decide +kernel, by decide +kernel⟩
theorem ws_338 : a_rc 338 ≠ 0 → (a_y 338).name ≠ "<init>" → (a_y 338).name ≠ "ordinal" → WSel 338 := fun _ _ _ => ⟨by decide +kernel, by decide +kernel, by decide +kernel⟩
set_option maxRecDepth 100000 in
theorem wm_339 : WMth 339 := ⟨rfl, by decide +kernel, by decide +kernel, by decide +kernel, by decide +kernel, by decide +kernel, by decide +kernel, by decide +kernel⟩
theorem ws_339 : a_rc 339 ≠ 0 → (a_y 339).name ≠ "<init>" → (a_y 339).name ≠ "ordinal" → WSel 339 := fun _ _ _ => ⟨by decide +kernel, by decide +kernel, by decide +kernel⟩
theorem wmc_320 : ∀ k, k < 20 → WMth (320 + k) ∧ (a_rc (320 + k) ≠ 0 → (a_y (320 + k)).name ≠ "<init>" → (a_y (320 + k)).name ≠ "ordinal" → WSel (320 + k)) := by
  intro k hk
  rcases (show k = 0 ∨ k = 1 ∨ k = 2 ∨ k = 3 ∨ k = 4 ∨ k = 5 ∨ k = 6 ∨ k = 7 ∨ k = 8 ∨ k = 9 ∨ k = 10 ∨ k = 11 ∨ k = 12 ∨ k = 13 ∨ k = 14 ∨ k = 15 ∨ k = 16 ∨ k = 17 ∨ k = 18 ∨ k = 19 by omega) with h | h | h | h | h | h | h | h | h | h | h | h | h | h | h | h | h | h | h | h <;> subst h
  · exact ⟨wm_320, ws_320⟩
  · exact ⟨wm_321, ws_321⟩
  · exact ⟨wm_322, ws_322⟩
  · exact ⟨wm_323, ws_323⟩
  · exact ⟨wm_324, ws_324⟩
  · exact ⟨wm_325, ws_325⟩
  · exact ⟨wm_326, ws_326⟩
  · exact ⟨wm_327, ws_327⟩
  · exact ⟨wm_328, ws_328⟩
  · exact ⟨wm_329, ws_329⟩
  · exact ⟨wm_330, ws_330⟩
  · exact ⟨wm_331, ws_331⟩
  · exact ⟨wm_332, ws_332⟩
  · exact ⟨wm_333, ws_333⟩
  · exact ⟨wm_334, ws_334⟩
  · exact ⟨wm_335, ws_335⟩
  · exact ⟨wm_336, ws_336⟩
  · exact ⟨wm_337, ws_337⟩
  · exact ⟨wm_338, ws_338⟩
  · exact ⟨wm_339, ws_339⟩
set_option maxRecDepth 100000 in
theorem wm_340 : WMth 340 := ⟨rfl, by decide +kernel, by decide +kernel, by decide +kernel, by decide +kernel, by decide +kernel, by decide +kernel, by decide +kernel⟩
theorem ws_340 : a_rc 340 ≠ 0 → (a_y 340).name ≠ "<init>" → (a_y 340).name ≠ "ordinal" → WSel 340 := fun _ _ _ => ⟨by decide +kernel, by decide +kernel, by decide +kernel⟩
set_option maxRecDepth 100000 in
theorem wm_341 : WMth 341 := ⟨rfl, by decide +kernel, by decide +kernel, by decide +kernel, by decide +kernel, by decide +kernel, by decide +kernel, by decide +kernel⟩
theorem ws_341 : a_rc 341 ≠ 0 → (a_y 341).name ≠ "<init>" → (a_y 341).name ≠ "ordinal" → WSel 341 := fun _ _ _ => ⟨by decide +kernel, by decide +kernel, by decide +kernel⟩
set_option maxRecDepth 100000 in
theorem wm_342 : WMth 342 := ⟨rfl, by decide +kernel, by decide +kernel, by decide +kernel, by decide +kernel, by decide +kernel, by decide +kernel, by decide +kernel⟩
theorem ws_342 : a_rc 342 ≠ 0 → (a_y 342).name ≠ "<init>" → (a_y 342).name ≠ "ordinal" → WSel 342 := fun _ _ _ => ⟨by decide +kernel, by decide +kernel, by decide +kernel⟩
set_option maxRecDepth 100000 in
theorem wm_343 : WMth 343 := ⟨rfl, by decide +kernel, by decide +kernel, by decide +kernel, by decide +kernel, by decide +kernel, by decide +kernel, by decide +kernel⟩
theorem ws_343 : a_rc 343 ≠ 0 → (a_y 343).name ≠ "<init>" → (a_y 343).name ≠ "ordinal" → WSel 343 := fun h _ _ => absurd (by decide +kernel) h
set_option maxRecDepth 100000 in
theorem wm_344 : WMth 344 := ⟨rfl, by decide +kernel, by decide +kernel, by decide +kernel, by decide +kernel, by decide +kernel, by decide +kernel, by decide +kernel⟩
theorem ws_344 : a_rc 344 ≠ 0 → (a_y 344).name ≠ "<init>" → (a_y 344).name ≠ "ordinal" → WSel 344 := fun _ _ h => absurd (by decide +kernel) h
set_option maxRecDepth 100000 in
theorem wm_345 : WMth 345 := ⟨rfl, by decide +kernel, by decide +kernel, by decide +kernel, by decide +kernel, by decide +kernel, by decide +kernel, by decide +kernel⟩
theorem ws_345 : a_rc 345 ≠ 0 → (a_y 345).name ≠ "<init>" → (a_y 345).name ≠ "ordinal" → WSel 345 := fun h _ _ => absurd (by decide +kernel) h
set_option maxRecDepth 100000 in
theorem wm_346 : WMth 346 := ⟨rfl, by decide +kernel, by decide +kernel, by decide +kernel, by decide +kernel, by decide +kernel, by decide +kernel, by decide +kernel⟩
theorem ws_346 : a_rc 346 ≠ 0 → (a_y 346).name ≠ "<init>" → (a_y 346).name ≠ "ordinal" → WSel 346 := fun h _ _ => absurd (by decide +kernel) h
set_option maxRecDepth 100000 in
theorem wm_347 : WMth 347 := ⟨rfl, by decide +kernel, by decide +kernel, by decide +kernel, by decide +kernel, by decide +kernel, by decide +kernel, by decide +kernel⟩
theorem ws_347 : a_rc 347 ≠ 0 → (a_y 347).name ≠ "<init>" → (a_y 347).name ≠ "ordinal" → WSel 347 := fun h _ _ => absurd (by decide +kernel) h
set_option maxRecDepth 100000 in
theorem wm_348 : WMth 348 := ⟨rfl, by decide +kernel, by decide +kernel, by decide +kernel, by decide +kernel, by decide +kernel, by decide +kernel, by decide +kernel⟩
theorem ws_348 : a_rc 348 ≠ 0 → (a_y 348).name ≠ "<init>" → (a_y 348).name ≠ "ordinal" → WSel 348 := fun h _ _ => absurd (by decide +kernel) h
set_option maxRecDepth 100000 in
theorem wm_349 : WMth 349 := ⟨rfl, by decide +kernel, by decide +kernel, by decide +kernel, by decide +kernel, by decide +kernel, by decide +kernel, by decide +kernel⟩
theorem ws_349 : a_rc 349 ≠ 0 → (a_y 349).name ≠ "<init>" → (a_y 349).name ≠ "ordinal" → WSel 349 := fun h _ _ => absurd (by decide +kernel) h
set_option maxRecDepth 100000 in
theorem wm_350 : WMth 350 := ⟨rfl, by decide +kernel, by decide +kernel, by decide +kernel, by decide +kernel, by decide +kernel, by decide +kernel, by decide +kernel⟩
theorem ws_350 : a_rc 350 ≠ 0 → (a_y 350).name ≠ "<init>" → (a_y 350).name ≠ "ordinal" → WSel 350 := fun h _ _ => absurd (by decide +kernel) h
set_option maxRecDepth 100000 in
theorem wm_351 : WMth 351 := ⟨rfl, by decide +kernel, by decide +kernel, by decide +kernel, by decide +kernel, by decide +kernel, by decide +kernel, by decide +kernel⟩
theorem ws_351 : a_rc 351 ≠ 0 → (a_y 351).name ≠ "<init>" → (a_y 351).name ≠ "ordinal" → WSel 351 := fun h _ _ => absurd (by decide +kernel) h
set_option maxRecDepth 100000 in
theorem wm_352 : WMth 352 := ⟨rfl, by decide +kernel, by decide +kernel, by decide +kernel, by decide +kernel, by decide +kernel, by decide +kernel, by decide +kernel⟩
theorem ws_352 : a_rc 352 ≠ 0 → (a_y 352).name ≠ "<init>" → (a_y 352).name ≠ "ordinal" → WSel 352 := fun h _ _ => absurd (by decide +kernel) h
set_option maxRecDepth 100000 in
theorem wm_353 : WMth 353 := ⟨rfl, by decide +kernel, by decide +kernel, by decide +kernel, by decide +kernel, by decide +kernel, by decide +kernel, by decide +kernel⟩
theorem ws_353 : a_rc 353 ≠ 0 → (a_y 353).name ≠ "<init>" → (a_y 353).name ≠ "ordinal" → WSel 353 := fun h _ _ => absurd (by decide +kernel) h
set_option maxRecDepth 100000 in
theorem wm_354 : WMth 354 := ⟨rfl, by decide +kernel, by decide +kernel, by decide +kernel, by decide +kernel, by decide +kernel, by decide +kernel, by decide +kernel⟩
theorem ws_354 : a_rc 354 ≠ 0 → (a_y 354).name ≠ "<init>" → (a_y 354).name ≠ "ordinal" → WSel 354 := fun h _ _ => absurd (by decide +kernel) h
set_option maxRecDepth 100000 in
theorem wm_355 : WMth 355 := ⟨rfl, by decide +kernel, by decide +kernel, by decide +kernel, by decide +kernel, by decide +kernel, by decide +kernel, by decide +kernel⟩
theorem ws_355 : a_rc 355 ≠ 0 → (a_y 355).name ≠ "<init>" → (a_y 355).name ≠ "ordinal" → WSel 355 := fun h _ _ => absurd (by decide +kernel) h
set_option maxRecDepth 100000 in
theorem wm_356 : WMth 356 := ⟨rfl, by decide +kernel, by decide +kernel, by decide +kernel, by decide +kernel, by decide +kernel, by decide +kernel, by decide +kernel⟩
theorem ws_356 : a_rc 356 ≠ 0 → (a_y 356).name ≠ "<init>" → (a_y 356).name ≠ "ordinal" → WSel 356 := fun h _ _ => absurd (by decide +kernel) h
set_option maxRecDepth 100000 in
theorem wm_357 : WMth 357 := ⟨rfl, by decide +kernel, by decide +kernel, by decide +kernel, by decide +kernel, by decide +kernel, by decide +kernel, by decide +kernel⟩
theorem ws_357 : a_rc 357 ≠ 0 → (a_y 357).name ≠ "<init>" → (a_y 357).name ≠ "ordinal" → WSel 357 := fun h _ _ => absurd (by decide +kernel) h
set_option maxRecDepth 100000 in
theorem wm_358 : WMth 358 := ⟨rfl, by decide +kernel, by decide +kernel, by decide +kernel, by decide +kernel, by decide +kernel, by decide +kernel, by decide +kernel⟩
theorem ws_358 : a_rc 358 ≠ 0 → (a_y 358).name ≠ "<init>" → (a_y 358).name ≠ "ordinal" → WSel 358 := fun h _ _ => absurd (by decide +kernel) h
theorem wmc_340 : ∀ k, k < 19 → WMth (340 + k) ∧ (a_rc (340 + k) ≠ 0 → (a_y (340 + k)).name ≠ "<init>" → (a_y (340 + k)).name ≠ "ordinal" → WSel (340 + k)) := by
  intro k hk
  rcases (show k = 0 ∨ k = 1 ∨ k = 2 ∨ k = 3 ∨ k = 4 ∨ k = 5 ∨ k = 6 ∨ k = 7 ∨ k = 8 ∨ k = 9 ∨ k = 10 ∨ k = 11 ∨ k = 12 ∨ k = 13 ∨ k = 14 ∨ k = 15 ∨ k = 16 ∨ k = 17 ∨ k = 18 by omega) with h | h | h | h | h | h | h | h | h | h | h | h | h | h | h | h | h | h | h <;> subst h
  · exact ⟨wm_340, ws_340⟩
  · exact ⟨wm_341, ws_341⟩
  · exact ⟨wm_342, ws_342⟩
  · exact ⟨wm_343, ws_343⟩
  · exact ⟨wm_344, ws_344⟩
  · exact ⟨wm_345, ws_345⟩
  · exact ⟨wm_346, ws_346⟩
  · exact ⟨wm_347, ws_347⟩
  · exact ⟨wm_348, ws_348⟩
  · exact ⟨wm_349, ws_349⟩
  · exact ⟨wm_350, ws_350⟩
  · exact ⟨wm_351, ws_351⟩
  · exact ⟨wm_352, ws_352⟩
  · exact ⟨wm_353, ws_353⟩
  · exact ⟨wm_354, ws_354⟩
  · exact ⟨wm_355, ws_355⟩
  · exact ⟨wm_356, ws_356⟩
  · exact ⟨wm_357, ws_357⟩
  · exact ⟨wm_358, ws_358⟩
theorem w_mth : ∀ m, m < 359 → WMth m ∧ (a_rc m ≠ 0 → (a_y m).name ≠ "<init>" → (a_y m).name ≠ "ordinal" → WSel m) := by
  intro m hm
  by_cases h0 : m < 20
  · have := wmc_0 (m - 0) (by omega)
    rw [show 0 + (m - 0) = m by omega] at this
    exact this
  by_cases h20 : m < 40
  · have := wmc_20 (m - 20) (by omega)
    rw [show 20 + (m - 20) = m by omega] at this
    exact this
  by_cases h40 : m < 60
  · have := wmc_40 (m - 40) (by omega)
    rw [show 40 + (m - 40) = m by omega] at this
    exact this
  by_cases h60 : m < 80
  · have := wmc_60 (m - 60) (by omega)
    rw [show 60 + (m - 60) = m by omega] at this
    exact this
  by_cases h80 : m < 100
  · have := wmc_80 (m - 80) (by omega)
    rw [show 80 + (m - 80) = m by omega] at this
    exact this
  by_cases h100 : m < 120
  · have := wmc_100 (m - 100) (by omega)
    rw [show 100 + (m - 100) = m by omega] at this
    exact this
  by_cases h120 : m < 140
  · have := wmc_120 (m - 120) (by omega)
    rw [show 120 + (m - 120) = m by omega] at this
    exact this
  by_cases h140 : m < 160
  · have := wmc_140 (m - 140) (by omega)
    rw [show 140 + (m - 140) = m by omega] at this
    exact this
  by_cases h160 : m < 180
  · have := wmc_160 (m - 160) (by omega)
    rw [show 160 + (m - 160) = m by omega] at this
    exact this
  by_cases h180 : m < 200
  · have := wmc_180 (m - 180) (by omega)
    rw [show 180 + (m - 180) = m by omega] at this
    exact this
  by_cases h200 : m < 220
  · have := wmc_200 (m - 200) (by omega)
    rw [show 200 + (m - 200) = m by omega] at this
    exact this
  by_cases h220 : m < 240
  · have := wmc_220 (m - 220) (by omega)
    rw [show 220 + (m - 220) = m by omega] at this
    exact this
  by_cases h240 : m < 260
  · have := wmc_240 (m - 240) (by omega)
    rw [show 240 + (m - 240) = m by omega] at this
    exact this
  by_cases h260 : m < 280
  · have := wmc_260 (m - 260) (by omega)
    rw [show 260 + (m - 260) = m by omega] at this
    exact this
  by_cases h280 : m < 300
  · have := wmc_280 (m - 280) (by omega)
    rw [show 280 + (m - 280) = m by omega] at this
    exact this
  by_cases h300 : m < 320
  · have := wmc_300 (m - 300) (by omega)
    rw [show 300 + (m - 300) = m by omega] at this
    exact this
  by_cases h320 : m < 340
  · have := wmc_320 (m - 320) (by omega)
    rw [show 320 + (m - 320) = m by omega] at this
    exact this
  by_cases h340 : m < 359
  · have := wmc_340 (m - 340) (by omega)
    rw [show 340 + (m - 340) = m by omega] at this
    exact this
  exact absurd hm (by omega)
