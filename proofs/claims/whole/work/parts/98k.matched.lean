theorem a_mt_288 : a_matM 288 = true := by decide +kernel
theorem a_mt_289 : a_matM 289 = true := by decide +kernel
theorem a_mt_290 : a_matM 290 = true := by decide +kernel
theorem a_mt_291 : a_matM 291 = true := by decide +kernel
theorem a_mt_292 : a_matM 292 = true := by decide +kernel
theorem a_mt_293 : a_matM 293 = true := by decide +kernel
theorem a_mt_294 : a_matM 294 = true := by decide +kernel
theorem a_mt_295 : a_matM 295 = true := by decide +kernel
theorem a_mt_296 : a_matM 296 = true := by decide +kernel
theorem a_mt_297 : a_matM 297 = true := by decide +kernel
theorem a_mt_298 : a_matM 298 = true := by decide +kernel
theorem a_mt_299 : a_matM 299 = true := by decide +kernel
theorem a_mt_300 : a_matM 300 = true := by decide +kernel
theorem a_mt_301 : a_matM 301 = true := by decide +kernel
theorem a_mt_302 : a_matM 302 = true := by decide +kernel
theorem a_mt_303 : a_matM 303 = true := by decide +kernel
theorem a_mt_304 : a_matM 304 = true := by decide +kernel
theorem a_mt_305 : a_matM 305 = true := by decide +kernel
theorem a_mt_306 : a_matM 306 = true := by decide +kernel
theorem a_mt_307 : a_matM 307 = true := by decide +kernel
theorem a_mt_308 : a_matM 308 = true := by decide +kernel
theorem a_mt_309 : a_matM 309 = true := by decide +kernel
theorem a_mt_310 : a_matM 310 = true := by decide +kernel
theorem a_mt_311 : a_matM 311 = true := by decide +kernel
theorem a_mt_312 : a_matM 312 = true := by decide +kernel
theorem a_mt_313 : a_matM 313 = true := by decide +kernel
theorem a_mt_314 : a_matM 314 = true := by decide +kernel
theorem a_mt_315 : a_matM 315 = true := by decide +kernel
theorem a_mt_316 : a_matM 316 = true := by decide +kernel
theorem a_mt_317 : a_matM 317 = true := by decide +kernel
theorem a_mt_318 : a_matM 318 = true := by decide +kernel
theorem a_mt_319 : a_matM 319 = true := by decide +kernel
theorem a_mt_320 : a_matM 320 = true := by decide +kernel
theorem a_mt_321 : a_matM 321 = true := by decide +kernel
theorem a_mt_322 : a_matM 322 = true := by decide +kernel
theorem a_mt_323 : a_matM 323 = true := by decide +kernel
theorem a_mt_324 : a_matM 324 = true := by decide +kernel
theorem a_mt_325 : a_matM 325 = true := by decide +kernel
theorem a_mt_326 : a_matM 326 = true := by decide +kernel
theorem a_mt_327 : a_matM 327 = true := by decide +kernel
theorem a_mt_328 : a_matM 328 = true := by decide +kernel
theorem a_mt_329 : a_matM 329 = true := by decide +kernel
theorem a_mt_330 : a_matM 330 = true := by decide +kernel
theorem a_mt_331 : a_matM 331 = true := by decide +kernel
theorem a_mt_332 : a_matM 332 = true := by decide +kernel
theorem a_mt_333 : a_matM 333 = true := by decide +kernel
theorem a_mt_334 : a_matM 334 = true := by decide +kernel
theorem a_mt_335 : a_matM 335 = true := by decide +kernel
theorem a_mt_336 : a_matM 336 = true := by decide +kernel
theorem a_mt_337 : a_matM 337 = true := by decide +kernel
theorem a_mt_338 : a_matM 338 = true := by decide +kernel
theorem a_mt_339 : a_matM 339 = true := by decide +kernel
theorem a_mt_340 : a_matM 340 = true := by decide +kernel
theorem a_mt_341 : a_matM 341 = true := by decide +kernel
theorem a_mt_342 : a_matM 342 = true := by decide +kernel
theorem a_mt_343 : a_matM 343 = true := by decide +kernel
theorem a_mt_344 : a_matM 344 = true := by decide +kernel
theorem a_mt_345 : a_matM 345 = true := by decide +kernel
theorem a_mt_346 : a_matM 346 = true := by decide +kernel
theorem a_mt_347 : a_matM 347 = true := by decide +kernel
theorem a_mt_348 : a_matM 348 = true := by decide +kernel
theorem a_mt_349 : a_matM 349 = true := by decide +kernel
theorem a_mt_350 : a_matM 350 = true := by decide +kernel
theorem a_mt_351 : a_matM 351 = true := by decide +kernel
theorem a_mt_352 : a_matM 352 = true := by decide +kernel
theorem a_mt_353 : a_matM 353 = true := by decide +kernel
theorem a_mt_354 : a_matM 354 = true := by decide +kernel
theorem a_mt_355 : a_matM 355 = true := by decide +kernel
theorem a_mt_356 : a_matM 356 = true := by decide +kernel
theorem a_mt_357 : a_matM 357 = true := by decide +kernel
theorem a_mt_358 : a_matM 358 = true := by decide +kernel
theorem a_mtL_0 : a_mat 359 (a_pc 359 0) (a_bl 359 0) = true := by decide +kernel
theorem a_mtL_1 : a_mat 359 (a_pc 359 1) (a_bl 359 1) = true := by decide +kernel
theorem a_mtL_2 : a_mat 359 (a_pc 359 2) (a_bl 359 2) = true := by decide +kernel
theorem a_mtL_3 : a_mat 359 (a_pc 359 3) (a_bl 359 3) = true := by decide +kernel
theorem a_mtL_4 : a_mat 359 (a_pc 359 4) (a_bl 359 4) = true := by decide +kernel
theorem a_mtL_5 : a_mat 359 (a_pc 359 5) (a_bl 359 5) = true := by decide +kernel
theorem a_mtL_6 : a_mat 359 (a_pc 359 6) (a_bl 359 6) = true := by decide +kernel
theorem a_mtL_7 : a_mat 359 (a_pc 359 7) (a_bl 359 7) = true := by decide +kernel
theorem a_mtL_8 : a_mat 359 (a_pc 359 8) (a_bl 359 8) = true := by decide +kernel
theorem a_mtL_9 : a_mat 359 (a_pc 359 9) (a_bl 359 9) = true := by decide +kernel
theorem a_mtL_10 : a_mat 359 (a_pc 359 10) (a_bl 359 10) = true := by decide +kernel
theorem a_mtL_11 : a_mat 359 (a_pc 359 11) (a_bl 359 11) = true := by decide +kernel
theorem a_mtL_12 : a_mat 359 (a_pc 359 12) (a_bl 359 12) = true := by decide +kernel
theorem a_mtL_13 : a_mat 359 (a_pc 359 13) (a_bl 359 13) = true := by decide +kernel
theorem a_mtL_14 : a_mat 359 (a_pc 359 14) (a_bl 359 14) = true := by decide +kernel
theorem a_mtL_15 : a_mat 359 (a_pc 359 15) (a_bl 359 15) = true := by decide +kernel
theorem a_mtL_16 : a_mat 359 (a_pc 359 16) (a_bl 359 16) = true := by decide +kernel
theorem a_mtL_17 : a_mat 359 (a_pc 359 17) (a_bl 359 17) = true := by decide +kernel
theorem a_mtL_18 : a_mat 359 (a_pc 359 18) (a_bl 359 18) = true := by decide +kernel
theorem a_mtL_19 : a_mat 359 (a_pc 359 19) (a_bl 359 19) = true := by decide +kernel
theorem a_mtL_20 : a_mat 359 (a_pc 359 20) (a_bl 359 20) = true := by decide +kernel
theorem a_mtL_21 : a_mat 359 (a_pc 359 21) (a_bl 359 21) = true := by decide +kernel
theorem a_mtL_22 : a_mat 359 (a_pc 359 22) (a_bl 359 22) = true := by decide +kernel
theorem a_mtL_23 : a_mat 359 (a_pc 359 23) (a_bl 359 23) = true := by decide +kernel
theorem a_mtL_24 : a_mat 359 (a_pc 359 24) (a_bl 359 24) = true := by decide +kernel
theorem a_mtL_25 : a_mat 359 (a_pc 359 25) (a_bl 359 25) = true := by decide +kernel
theorem a_mtL_26 : a_mat 359 (a_pc 359 26) (a_bl 359 26) = true := by decide +kernel
theorem a_mtL_27 : a_mat 359 (a_pc 359 27) (a_bl 359 27) = true := by decide +kernel
theorem a_mtL_28 : a_mat 359 (a_pc 359 28) (a_bl 359 28) = true := by decide +kernel
theorem a_mtL_29 : a_mat 359 (a_pc 359 29) (a_bl 359 29) = true := by decide +kernel
theorem a_mtL_30 : a_mat 359 (a_pc 359 30) (a_bl 359 30) = true := by decide +kernel
theorem a_mtL_31 : a_mat 359 (a_pc 359 31) (a_bl 359 31) = true := by decide +kernel
theorem a_mtL_32 : a_mat 359 (a_pc 359 32) (a_bl 359 32) = true := by decide +kernel
theorem a_mtL_33 : a_mat 359 (a_pc 359 33) (a_bl 359 33) = true := by decide +kernel
theorem a_mtL_34 : a_mat 359 (a_pc 359 34) (a_bl 359 34) = true := by decide +kernel
theorem a_mtL_35 : a_mat 359 (a_pc 359 35) (a_bl 359 35) = true := by decide +kernel
theorem a_mtL_36 : a_mat 359 (a_pc 359 36) (a_bl 359 36) = true := by decide +kernel
theorem a_mtL_37 : a_mat 359 (a_pc 359 37) (a_bl 359 37) = true := by decide +kernel
theorem a_mtL_38 : a_mat 359 (a_pc 359 38) (a_bl 359 38) = true := by decide +kernel
theorem a_mtL_39 : a_mat 359 (a_pc 359 39) (a_bl 359 39) = true := by decide +kernel
theorem a_mtL_40 : a_mat 359 (a_pc 359 40) (a_bl 359 40) = true := by decide +kernel
theorem a_mtL_41 : a_mat 359 (a_pc 359 41) (a_bl 359 41) = true := by decide +kernel
theorem a_mtL_42 : a_mat 359 (a_pc 359 42) (a_bl 359 42) = true := by decide +kernel
theorem a_mtL_43 : a_mat 359 (a_pc 359 43) (a_bl 359 43) = true := by decide +kernel
theorem a_mtL_44 : a_mat 359 (a_pc 359 44) (a_bl 359 44) = true := by decide +kernel
theorem a_mtL_45 : a_mat 359 (a_pc 359 45) (a_bl 359 45) = true := by decide +kernel
theorem a_mtL_46 : a_mat 359 (a_pc 359 46) (a_bl 359 46) = true := by decide +kernel
theorem a_mtL_47 : a_mat 359 (a_pc 359 47) (a_bl 359 47) = true := by decide +kernel
theorem a_mtL_48 : a_mat 359 (a_pc 359 48) (a_bl 359 48) = true := by decide +kernel
theorem a_mtL_49 : a_mat 359 (a_pc 359 49) (a_bl 359 49) = true := by decide +kernel
theorem a_mtL_50 : a_mat 359 (a_pc 359 50) (a_bl 359 50) = true := by decide +kernel
theorem a_mtL_51 : a_mat 359 (a_pc 359 51) (a_bl 359 51) = true := by decide +kernel
theorem a_mtL_52 : a_mat 359 (a_pc 359 52) (a_bl 359 52) = true := by decide +kernel
theorem a_mtL_53 : a_mat 359 (a_pc 359 53) (a_bl 359 53) = true := by decide +kernel
theorem a_mtL_54 : a_mat 359 (a_pc 359 54) (a_bl 359 54) = true := by decide +kernel
theorem mat_of {m : Nat} (h : a_matM m = true) (L : Nat) : a_mat m (a_pc m L) (a_bl m L) = true := by
  unfold a_matM at h
  unfold a_pc a_bl
  by_cases hL : L < (a_m m).2.2.2.2.2.2.2.2.2.length
  · rw [List.getD_eq_getElem?_getD, List.getElem?_eq_getElem hL]
    exact List.all_eq_true.mp h _ (List.getElem_mem hL)
  · rw [List.getD_eq_getElem?_getD, List.getElem?_eq_none (by omega)]
    rfl
theorem mat_law (L : Nat) : a_mat 359 (a_pc 359 L) (a_bl 359 L) = true := by
  by_cases hL : L < 55
  · rcases (show L = 0 ∨ L = 1 ∨ L = 2 ∨ L = 3 ∨ L = 4 ∨ L = 5 ∨ L = 6 ∨ L = 7 ∨ L = 8 ∨ L = 9 ∨ L = 10 ∨ L = 11 ∨ L = 12 ∨ L = 13 ∨ L = 14 ∨ L = 15 ∨ L = 16 ∨ L = 17 ∨ L = 18 ∨ L = 19 ∨ L = 20 ∨ L = 21 ∨ L = 22 ∨ L = 23 ∨ L = 24 ∨ L = 25 ∨ L = 26 ∨ L = 27 ∨ L = 28 ∨ L = 29 ∨ L = 30 ∨ L = 31 ∨ L = 32 ∨ L = 33 ∨ L = 34 ∨ L = 35 ∨ L = 36 ∨ L = 37 ∨ L = 38 ∨ L = 39 ∨ L = 40 ∨ L = 41 ∨ L = 42 ∨ L = 43 ∨ L = 44 ∨ L = 45 ∨ L = 46 ∨ L = 47 ∨ L = 48 ∨ L = 49 ∨ L = 50 ∨ L = 51 ∨ L = 52 ∨ L = 53 ∨ L = 54 by omega) with h | h | h | h | h | h | h | h | h | h | h | h | h | h | h | h | h | h | h | h | h | h | h | h | h | h | h | h | h | h | h | h | h | h | h | h | h | h | h | h | h | h | h | h | h | h | h | h | h | h | h | h | h | h | h <;> subst h
    · exact a_mtL_0
    · exact a_mtL_1
    · exact a_mtL_2
    · exact a_mtL_3
    · exact a_mtL_4
    · exact a_mtL_5
    · exact a_mtL_6
    · exact a_mtL_7
    · exact a_mtL_8
    · exact a_mtL_9
    · exact a_mtL_10
    · exact a_mtL_11
    · exact a_mtL_12
    · exact a_mtL_13
    · exact a_mtL_14
    · exact a_mtL_15
    · exact a_mtL_16
    · exact a_mtL_17
    · exact a_mtL_18
    · exact a_mtL_19
    · exact a_mtL_20
    · exact a_mtL_21
    · exact a_mtL_22
    · exact a_mtL_23
    · exact a_mtL_24
    · exact a_mtL_25
    · exact a_mtL_26
    · exact a_mtL_27
    · exact a_mtL_28
    · exact a_mtL_29
    · exact a_mtL_30
    · exact a_mtL_31
    · exact a_mtL_32
    · exact a_mtL_33
    · exact a_mtL_34
    · exact a_mtL_35
    · exact a_mtL_36
    · exact a_mtL_37
    · exact a_mtL_38
    · exact a_mtL_39
    · exact a_mtL_40
    · exact a_mtL_41
    · exact a_mtL_42
    · exact a_mtL_43
    · exact a_mtL_44
    · exact a_mtL_45
    · exact a_mtL_46
    · exact a_mtL_47
    · exact a_mtL_48
    · exact a_mtL_49
    · exact a_mtL_50
    · exact a_mtL_51
    · exact a_mtL_52
    · exact a_mtL_53
    · exact a_mtL_54
  · have hl : (a_m 359).2.2.2.2.2.2.2.2.2.length = 55 := by decide +kernel
    unfold a_pc a_bl
    rw [List.getD_eq_getElem?_getD, List.getElem?_eq_none (by omega)]
    rfl
theorem mtc_0 : ∀ k, k < 20 → a_matM (0 + k) = true := by
  intro k hk
  rcases (show k = 0 ∨ k = 1 ∨ k = 2 ∨ k = 3 ∨ k = 4 ∨ k = 5 ∨ k = 6 ∨ k = 7 ∨ k = 8 ∨ k = 9 ∨ k = 10 ∨ k = 11 ∨ k = 12 ∨ k = 13 ∨ k = 14 ∨ k = 15 ∨ k = 16 ∨ k = 17 ∨ k = 18 ∨ k = 19 by omega) with h | h | h | h | h | h | h | h | h | h | h | h | h | h | h | h | h | h | h | h <;> subst h
  · exact a_mt_0
  · exact a_mt_1
  · exact a_mt_2
  · exact a_mt_3
  · exact a_mt_4
  · exact a_mt_5
  · exact a_mt_6
  · exact a_mt_7
  · exact a_mt_8
  · exact a_mt_9
  · exact a_mt_10
  · exact a_mt_11
  · exact a_mt_12
  · exact a_mt_13
  · exact a_mt_14
  · exact a_mt_15
  · exact a_mt_16
  · exact a_mt_17
  · exact a_mt_18
  · exact a_mt_19
theorem mtc_20 : ∀ k, k < 20 → a_matM (20 + k) = true := by
  intro k hk
  rcases (show k = 0 ∨ k = 1 ∨ k = 2 ∨ k = 3 ∨ k = 4 ∨ k = 5 ∨ k = 6 ∨ k = 7 ∨ k = 8 ∨ k = 9 ∨ k = 10 ∨ k = 11 ∨ k = 12 ∨ k = 13 ∨ k = 14 ∨ k = 15 ∨ k = 16 ∨ k = 17 ∨ k = 18 ∨ k = 19 by omega) with h | h | h | h | h | h | h | h | h | h | h | h | h | h | h | h | h | h | h | h <;> subst h
  · exact a_mt_20
  · exact a_mt_21
  · exact a_mt_22
  · exact a_mt_23
  · exact a_mt_24
  · exact a_mt_25
  · exact a_mt_26
  · exact a_mt_27
  · exact a_mt_28
  · exact a_mt_29
  · exact a_mt_30
  · exact a_mt_31
  · exact a_mt_32
  · exact a_mt_33
  · exact a_mt_34
  · exact a_mt_35
  · exact a_mt_36
  · exact a_mt_37
  · exact a_mt_38
  · exact a_mt_39
theorem mtc_40 : ∀ k, k < 20 → a_matM (40 + k) = true := by
  intro k hk
  rcases (show k = 0 ∨ k = 1 ∨ k = 2 ∨ k = 3 ∨ k = 4 ∨ k = 5 ∨ k = 6 ∨ k = 7 ∨ k = 8 ∨ k = 9 ∨ k = 10 ∨ k = 11 ∨ k = 12 ∨ k = 13 ∨ k = 14 ∨ k = 15 ∨ k = 16 ∨ k = 17 ∨ k = 18 ∨ k = 19 by omega) with h | h | h | h | h | h | h | h | h | h | h | h | h | h | h | h | h | h | h | h <;> subst h
  · exact a_mt_40
  · exact a_mt_41
  · exact a_mt_42
  · exact a_mt_43
  · exact a_mt_44
  · exact a_mt_45
  · exact a_mt_46
  · exact a_mt_47
  · exact a_mt_48
  · exact a_mt_49
  · exact a_mt_50
  · exact a_mt_51
  · exact a_mt_52
  · exact a_mt_53
  · exact a_mt_54
  · exact a_mt_55
  · exact a_mt_56
  · exact a_mt_57
  · exact a_mt_58
  · exact a_mt_59
theorem mtc_60 : ∀ k, k < 20 → a_matM (60 + k) = true := by
  intro k hk
  rcases (show k = 0 ∨ k = 1 ∨ k = 2 ∨ k = 3 ∨ k = 4 ∨ k = 5 ∨ k = 6 ∨ k = 7 ∨ k = 8 ∨ k = 9 ∨ k = 10 ∨ k = 11 ∨ k = 12 ∨ k = 13 ∨ k = 14 ∨ k = 15 ∨ k = 16 ∨ k = 17 ∨ k = 18 ∨ k = 19 by omega) with h | h | h | h | h | h | h | h | h | h | h | h | h | h | h | h | h | h | h | h <;> subst h
  · exact a_mt_60
  · exact a_mt_61
  · exact a_mt_62
  · exact a_mt_63
  · exact a_mt_64
  · exact a_mt_65
  · exact a_mt_66
  · exact a_mt_67
  · exact a_mt_68
  · exact a_mt_69
  · exact a_mt_70
  · exact a_mt_71
  · exact a_mt_72
  · exact a_mt_73
  · exact a_mt_74
  · exact a_mt_75
  · exact a_mt_76
  · exact a_mt_77
  · exact a_mt_78
  · exact a_mt_79
theorem mtc_80 : ∀ k, k < 20 → a_matM (80 + k) = true := by
  intro k hk
  rcases (show k = 0 ∨ k = 1 ∨ k = 2 ∨ k = 3 ∨ k = 4 ∨ k = 5 ∨ k = 6 ∨ k = 7 ∨ k = 8 ∨ k = 9 ∨ k = 10 ∨ k = 11 ∨ k = 12 ∨ k = 13 ∨ k = 14 ∨ k = 15 ∨ k = 16 ∨ k = 17 ∨ k = 18 ∨ k = 19 by omega) with h | h | h | h | h | h | h | h | h | h | h | h | h | h | h | h | h | h | h | h <;> subst h
  · exact a_mt_80
  · exact a_mt_81
  · exact a_mt_82
  · exact a_mt_83
  · exact a_mt_84
  · exact a_mt_85
  · exact a_mt_86
  · exact a_mt_87
  · exact a_mt_88
  · exact a_mt_89
  · exact a_mt_90
  · exact a_mt_91
  · exact a_mt_92
  · exact a_mt_93
  · exact a_mt_94
  · exact a_mt_95
  · exact a_mt_96
  · exact a_mt_97
  · exact a_mt_98
  · exact a_mt_99
theorem mtc_100 : ∀ k, k < 20 → a_matM (100 + k) = true := by
  intro k hk
  rcases (show k = 0 ∨ k = 1 ∨ k = 2 ∨ k = 3 ∨ k = 4 ∨ k = 5 ∨ k = 6 ∨ k = 7 ∨ k = 8 ∨ k = 9 ∨ k = 10 ∨ k = 11 ∨ k = 12 ∨ k = 13 ∨ k = 14 ∨ k = 15 ∨ k = 16 ∨ k = 17 ∨ k = 18 ∨ k = 19 by omega) with h | h | h | h | h | h | h | h | h | h | h | h | h | h | h | h | h | h | h | h <;> subst h
  · exact a_mt_100
  · exact a_mt_101
  · exact a_mt_102
  · exact a_mt_103
  · exact a_mt_104
  · exact a_mt_105
  · exact a_mt_106
  · exact a_mt_107
  · exact a_mt_108
  · exact a_mt_109
  · exact a_mt_110
  · exact a_mt_111
  · exact a_mt_112
  · exact a_mt_113
  · exact a_mt_114
  · exact a_mt_115
  · exact a_mt_116
  · exact a_mt_117
  · exact a_mt_118
  · exact a_mt_119
theorem mtc_120 : ∀ k, k < 20 → a_matM (120 + k) = true := by
  intro k hk
  rcases (show k = 0 ∨ k = 1 ∨ k = 2 ∨ k = 3 ∨ k = 4 ∨ k = 5 ∨ k = 6 ∨ k = 7 ∨ k = 8 ∨ k = 9 ∨ k = 10 ∨ k = 11 ∨ k = 12 ∨ k = 13 ∨ k = 14 ∨ k = 15 ∨ k = 16 ∨ k = 17 ∨ k = 18 ∨ k = 19 by omega) with h | h | h | h | h | h | h | h | h | h | h | h | h | h | h | h | h | h | h | h <;> subst h
  · exact a_mt_120
  · exact a_mt_121
  · exact a_mt_122
  · exact a_mt_123
  · exact a_mt_124
  · exact a_mt_125
  · exact a_mt_126
  · exact a_mt_127
  · exact a_mt_128
  · exact a_mt_129
  · exact a_mt_130
  · exact a_mt_131
  · exact a_mt_132
  · exact a_mt_133
  · exact a_mt_134
  · exact a_mt_135
  · exact a_mt_136
  · exact a_mt_137
  · exact a_mt_138
  · exact a_mt_139
theorem mtc_140 : ∀ k, k < 20 → a_matM (140 + k) = true := by
  intro k hk
  rcases (show k = 0 ∨ k = 1 ∨ k = 2 ∨ k = 3 ∨ k = 4 ∨ k = 5 ∨ k = 6 ∨ k = 7 ∨ k = 8 ∨ k = 9 ∨ k = 10 ∨ k = 11 ∨ k = 12 ∨ k = 13 ∨ k = 14 ∨ k = 15 ∨ k = 16 ∨ k = 17 ∨ k = 18 ∨ k = 19 by omega) with h | h | h | h | h | h | h | h | h | h | h | h | h | h | h | h | h | h | h | h <;> subst h
  · exact a_mt_140
  · exact a_mt_141
  · exact a_mt_142
  · exact a_mt_143
  · exact a_mt_144
  · exact a_mt_145
  · exact a_mt_146
  · exact a_mt_147
  · exact a_mt_148
  · exact a_mt_149
  · exact a_mt_150
  · exact a_mt_151
  · exact a_mt_152
  · exact a_mt_153
  · exact a_mt_154
  · exact a_mt_155
  · exact a_mt_156
  · exact a_mt_157
  · exact a_mt_158
  · exact a_mt_159
theorem mtc_160 : ∀ k, k < 20 → a_matM (160 + k) = true := by
  intro k hk
  rcases (show k = 0 ∨ k = 1 ∨ k = 2 ∨ k = 3 ∨ k = 4 ∨ k = 5 ∨ k = 6 ∨ k = 7 ∨ k = 8 ∨ k = 9 ∨ k = 10 ∨ k = 11 ∨ k = 12 ∨ k = 13 ∨ k = 14 ∨ k = 15 ∨ k = 16 ∨ k = 17 ∨ k = 18 ∨ k = 19 by omega) with h | h | h | h | h | h | h | h | h | h | h | h | h | h | h | h | h | h | h | h <;> subst h
  · exact a_mt_160
  · exact a_mt_161
  · exact a_mt_162
  · exact a_mt_163
  · exact a_mt_164
  · exact a_mt_165
  · exact a_mt_166
  · exact a_mt_167
  · exact a_mt_168
  · exact a_mt_169
  · exact a_mt_170
  · exact a_mt_171
  · exact a_mt_172
  · exact a_mt_173
  · exact a_mt_174
  · exact a_mt_175
  · exact a_mt_176
  · exact a_mt_177
  · exact a_mt_178
  · exact a_mt_179
theorem mtc_180 : ∀ k, k < 20 → a_matM (180 + k) = true := by
  intro k hk
  rcases (show k = 0 ∨ k = 1 ∨ k = 2 ∨ k = 3 ∨ k = 4 ∨ k = 5 ∨ k = 6 ∨ k = 7 ∨ k = 8 ∨ k = 9 ∨ k = 10 ∨ k = 11 ∨ k = 12 ∨ k = 13 ∨ k = 14 ∨ k = 15 ∨ k = 16 ∨ k = 17 ∨ k = 18 ∨ k = 19 by omega) with h | h | h | h | h | h | h | h | h | h | h | h | h | h | h | h | h | h | h | h <;> subst h
  · exact a_mt_180
  · exact a_mt_181
  · exact a_mt_182
  · exact a_mt_183
  · exact a_mt_184
  · exact a_mt_185
  · exact a_mt_186
  · exact a_mt_187
  · exact a_mt_188
  · exact a_mt_189
  · exact a_mt_190
  · exact a_mt_191
  · exact a_mt_192
  · exact a_mt_193
  · exact a_mt_194
  · exact a_mt_195
  · exact a_mt_196
  · exact a_mt_197
  · exact a_mt_198
  · exact a_mt_199
theorem mtc_200 : ∀ k, k < 20 → a_matM (200 + k) = true := by
  intro k hk
  rcases (show k = 0 ∨ k = 1 ∨ k = 2 ∨ k = 3 ∨ k = 4 ∨ k = 5 ∨ k = 6 ∨ k = 7 ∨ k = 8 ∨ k = 9 ∨ k = 10 ∨ k = 11 ∨ k = 12 ∨ k = 13 ∨ k = 14 ∨ k = 15 ∨ k = 16 ∨ k = 17 ∨ k = 18 ∨ k = 19 by omega) with h | h | h | h | h | h | h | h | h | h | h | h | h | h | h | h | h | h | h | h <;> subst h
  · exact a_mt_200
  · exact a_mt_201
  · exact a_mt_202
  · exact a_mt_203
  · exact a_mt_204
  · exact a_mt_205
  · exact a_mt_206
  · exact a_mt_207
  · exact a_mt_208
  · exact a_mt_209
  · exact a_mt_210
  · exact a_mt_211
  · exact a_mt_212
  · exact a_mt_213
  · exact a_mt_214
  · exact a_mt_215
  · exact a_mt_216
  · exact a_mt_217
  · exact a_mt_218
  · exact a_mt_219
theorem mtc_220 : ∀ k, k < 20 → a_matM (220 + k) = true := by
  intro k hk
  rcases (show k = 0 ∨ k = 1 ∨ k = 2 ∨ k = 3 ∨ k = 4 ∨ k = 5 ∨ k = 6 ∨ k = 7 ∨ k = 8 ∨ k = 9 ∨ k = 10 ∨ k = 11 ∨ k = 12 ∨ k = 13 ∨ k = 14 ∨ k = 15 ∨ k = 16 ∨ k = 17 ∨ k = 18 ∨ k = 19 by omega) with h | h | h | h | h | h | h | h | h | h | h | h | h | h | h | h | h | h | h | h <;> subst h
  · exact a_mt_220
  · exact a_mt_221
  · exact a_mt_222
  · exact a_mt_223
  · exact a_mt_224
  · exact a_mt_225
  · exact a_mt_226
  · exact a_mt_227
  · exact a_mt_228
  · exact a_mt_229
  · exact a_mt_230
  · exact a_mt_231
  · exact a_mt_232
  · exact a_mt_233
  · exact a_mt_234
  · exact a_mt_235
  · exact a_mt_236
  · exact a_mt_237
  · exact a_mt_238
  · exact a_mt_239
theorem mtc_240 : ∀ k, k < 20 → a_matM (240 + k) = true := by
  intro k hk
  rcases (show k = 0 ∨ k = 1 ∨ k = 2 ∨ k = 3 ∨ k = 4 ∨ k = 5 ∨ k = 6 ∨ k = 7 ∨ k = 8 ∨ k = 9 ∨ k = 10 ∨ k = 11 ∨ k = 12 ∨ k = 13 ∨ k = 14 ∨ k = 15 ∨ k = 16 ∨ k = 17 ∨ k = 18 ∨ k = 19 by omega) with h | h | h | h | h | h | h | h | h | h | h | h | h | h | h | h | h | h | h | h <;> subst h
  · exact a_mt_240
  · exact a_mt_241
  · exact a_mt_242
  · exact a_mt_243
  · exact a_mt_244
  · exact a_mt_245
  · exact a_mt_246
  · exact a_mt_247
  · exact a_mt_248
  · exact a_mt_249
  · exact a_mt_250
  · exact a_mt_251
  · exact a_mt_252
  · exact a_mt_253
  · exact a_mt_254
  · exact a_mt_255
  · exact a_mt_256
  · exact a_mt_257
  · exact a_mt_258
  · exact a_mt_259
theorem mtc_260 : ∀ k, k < 20 → a_matM (260 + k) = true := by
  intro k hk
  rcases (show k = 0 ∨ k = 1 ∨ k = 2 ∨ k = 3 ∨ k = 4 ∨ k = 5 ∨ k = 6 ∨ k = 7 ∨ k = 8 ∨ k = 9 ∨ k = 10 ∨ k = 11 ∨ k = 12 ∨ k = 13 ∨ k = 14 ∨ k = 15 ∨ k = 16 ∨ k = 17 ∨ k = 18 ∨ k = 19 by omega) with h | h | h | h | h | h | h | h | h | h | h | h | h | h | h | h | h | h | h | h <;> subst h
  · exact a_mt_260
  · exact a_mt_261
  · exact a_mt_262
  · exact a_mt_263
  · exact a_mt_264
  · exact a_mt_265
  · exact a_mt_266
  · exact a_mt_267
  · exact a_mt_268
  · exact a_mt_269
  · exact a_mt_270
  · exact a_mt_271
  · exact a_mt_272
  · exact a_mt_273
  · exact a_mt_274
  · exact a_mt_275
  · exact a_mt_276
  · exact a_mt_277
  · exact a_mt_278
  · exact a_mt_279
theorem mtc_280 : ∀ k, k < 20 → a_matM (280 + k) = true := by
  intro k hk
  rcases (show k = 0 ∨ k = 1 ∨ k = 2 ∨ k = 3 ∨ k = 4 ∨ k = 5 ∨ k = 6 ∨ k = 7 ∨ k = 8 ∨ k = 9 ∨ k = 10 ∨ k = 11 ∨ k = 12 ∨ k = 13 ∨ k = 14 ∨ k = 15 ∨ k = 16 ∨ k = 17 ∨ k = 18 ∨ k = 19 by omega) with h | h | h | h | h | h | h | h | h | h | h | h | h | h | h | h | h | h | h | h <;> subst h
  · exact a_mt_280
  · exact a_mt_281
  · exact a_mt_282
  · exact a_mt_283
  · exact a_mt_284
  · exact a_mt_285
  · exact a_mt_286
  · exact a_mt_287
  · exact a_mt_288
  · exact a_mt_289
  · exact a_mt_290
  · exact a_mt_291
  · exact a_mt_292
  · exact a_mt_293
  · exact a_mt_294
  · exact a_mt_295
  · exact a_mt_296
  · exact a_mt_297
  · exact a_mt_298
  · exact a_mt_299
theorem mtc_300 : ∀ k, k < 20 → a_matM (300 + k) = true := by
  intro k hk
  rcases (show k = 0 ∨ k = 1 ∨ k = 2 ∨ k = 3 ∨ k = 4 ∨ k = 5 ∨ k = 6 ∨ k = 7 ∨ k = 8 ∨ k = 9 ∨ k = 10 ∨ k = 11 ∨ k = 12 ∨ k = 13 ∨ k = 14 ∨ k = 15 ∨ k = 16 ∨ k = 17 ∨ k = 18 ∨ k = 19 by omega) with h | h | h | h | h | h | h | h | h | h | h | h | h | h | h | h | h | h | h | h <;> subst h
  · exact a_mt_300
  · exact a_mt_301
  · exact a_mt_302
  · exact a_mt_303
  · exact a_mt_304
  · exact a_mt_305
  · exact a_mt_306
  · exact a_mt_307
  · exact a_mt_308
  · exact a_mt_309
  · exact a_mt_310
  · exact a_mt_311
  · exact a_mt_312
  · exact a_mt_313
  · exact a_mt_314
  · exact a_mt_315
  · exact a_mt_316
  · exact a_mt_317
  · exact a_mt_318
  · exact a_mt_319
theorem mtc_320 : ∀ k, k < 20 → a_matM (320 + k) = true := by
  intro k hk
  rcases (show k = 0 ∨ k = 1 ∨ k = 2 ∨ k = 3 ∨ k = 4 ∨ k = 5 ∨ k = 6 ∨ k = 7 ∨ k = 8 ∨ k = 9 ∨ k = 10 ∨ k = 11 ∨ k = 12 ∨ k = 13 ∨ k = 14 ∨ k = 15 ∨ k = 16 ∨ k = 17 ∨ k = 18 ∨ k = 19 by omega) with h | h | h | h | h | h | h | h | h | h | h | h | h | h | h | h | h | h | h | h <;> subst h
  · exact a_mt_320
  · exact a_mt_321
  · exact a_mt_322
  · exact a_mt_323
  · exact a_mt_324
  · exact a_mt_325
  · exact a_mt_326
  · exact a_mt_327
  · exact a_mt_328
  · exact a_mt_329
  · exact a_mt_330
  · exact a_mt_331
  · exact a_mt_332
  · exact a_mt_333
  · exact a_mt_334
  · exact a_mt_335
  · exact a_mt_336
  · exact a_mt_337
  · exact a_mt_338
  · exact a_mt_339
theorem mtc_340 : ∀ k, k < 19 → a_matM (340 + k) = true := by
  intro k hk
  rcases (show k = 0 ∨ k = 1 ∨ k = 2 ∨ k = 3 ∨ k = 4 ∨ k = 5 ∨ k = 6 ∨ k = 7 ∨ k = 8 ∨ k = 9 ∨ k = 10 ∨ k = 11 ∨ k = 12 ∨ k = 13 ∨ k = 14 ∨ k = 15 ∨ k = 16 ∨ k = 17 ∨ k = 18 by omega) with h | h | h | h | h | h | h | h | h | h | h | h | h | h | h | h | h | h | h <;> subst h
  · exact a_mt_340
  · exact a_mt_341
  · exact a_mt_342
  · exact a_mt_343
  · exact a_mt_344
  · exact a_mt_345
  · exact a_mt_346
  · exact a_mt_347
  · exact a_mt_348
  · exact a_mt_349
  · exact a_mt_350
  · exact a_mt_351
  · exact a_mt_352
  · exact a_mt_353
  · exact a_mt_354
  · exact a_mt_355
  · exact a_mt_356
  · exact a_mt_357
  · exact a_mt_358
theorem w_mat : ∀ m L, m < 360 → a_mat m (a_pc m L) (a_bl m L) = true := by
  intro m L hm
  by_cases hl : m = 359
  · subst hl
    exact mat_law L
  by_cases h0 : m < 20
  · have := mtc_0 (m - 0) (by omega)
    rw [show 0 + (m - 0) = m by omega] at this
    exact mat_of this L
  by_cases h20 : m < 40
  · have := mtc_20 (m - 20) (by omega)
    rw [show 20 + (m - 20) = m by omega] at this
    exact mat_of this L
  by_cases h40 : m < 60
  · have := mtc_40 (m - 40) (by omega)
    rw [show 40 + (m - 40) = m by omega] at this
    exact mat_of this L
  by_cases h60 : m < 80
  · have := mtc_60 (m - 60) (by omega)
    rw [show 60 + (m - 60) = m by omega] at this
    exact mat_of this L
  by_cases h80 : m < 100
  · have := mtc_80 (m - 80) (by omega)
    rw [show 80 + (m - 80) = m by omega] at this
    exact mat_of this L
  by_cases h100 : m < 120
  · have := mtc_100 (m - 100) (by omega)
    rw [show 100 + (m - 100) = m by omega] at this
    exact mat_of this L
  by_cases h120 : m < 140
  · have := mtc_120 (m - 120) (by omega)
    rw [show 120 + (m - 120) = m by omega] at this
    exact mat_of this L
  by_cases h140 : m < 160
  · have := mtc_140 (m - 140) (by omega)
    rw [show 140 + (m - 140) = m by omega] at this
    exact mat_of this L
  by_cases h160 : m < 180
  · have := mtc_160 (m - 160) (by omega)
    rw [show 160 + (m - 160) = m by omega] at this
    exact mat_of this L
  by_cases h180 : m < 200
  · have := mtc_180 (m - 180) (by omega)
    rw [show 180 + (m - 180) = m by omega] at this
    exact mat_of this L
  by_cases h200 : m < 220
  · have := mtc_200 (m - 200) (by omega)
    rw [show 200 + (m - 200) = m by omega] at this
    exact mat_of this L
  by_cases h220 : m < 240
  · have := mtc_220 (m - 220) (by omega)
    rw [show 220 + (m - 220) = m by omega] at this
    exact mat_of this L
  by_cases h240 : m < 260
  · have := mtc_240 (m - 240) (by omega)
    rw [show 240 + (m - 240) = m by omega] at this
    exact mat_of this L
  by_cases h260 : m < 280
  · have := mtc_260 (m - 260) (by omega)
    rw [show 260 + (m - 260) = m by omega] at this
    exact mat_of this L
  by_cases h280 : m < 300
  · have := mtc_280 (m - 280) (by omega)
    rw [show 280 + (m - 280) = m by omega] at this
    exact mat_of this L
  by_cases h300 : m < 320
  · have := mtc_300 (m - 300) (by omega)
    rw [show 300 + (m - 300) = m by omega] at this
    exact mat_of this L
  by_cases h320 : m < 340
  · have := mtc_320 (m - 320) (by omega)
    rw [show 320 + (m - 320) = m by omega] at this
    exact mat_of this L
  by_cases h340 : m < 359
  · have := mtc_340 (m - 340) (by omega)
    rw [show 340 + (m - 340) = m by omega] at this
    exact mat_of this L
  exact absurd hm (by omega)
theorem w_all : WAll := ⟨w_fls, w_sts, w_kns, w_kls, w_nls, w_cls, fun m hm => (w_mth m hm).1, fun m hm => (w_mth m hm).2, w_cl.1, w_ocs, w_mat,
  ⟨818, by decide +kernel⟩, ⟨817, by decide +kernel⟩, ⟨119, by decide +kernel⟩, ⟨132, by decide +kernel⟩, ⟨133, rfl⟩, w_cl.2, w_pc0, ⟨⟨1395, by decide +kernel⟩, ⟨1397, by decide +kernel⟩, by decide +kernel, by decide +kernel, by decide +kernel, fun m hm h => (w_ini m hm h).1⟩, fun m hm h => (w_ini m hm h).2⟩
