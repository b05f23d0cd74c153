/-! Jumps, calls and the method's end, over the machine -/
def i_ctl : Instr → Bool
  | .goto _ | .ifCond .. | .if_icmp .. | .ifnonnull _ | .if_acmp .. | .tableswitch .. | .ireturn | .lreturn | .areturn | .return_ | .invokevirtual _ | .invokespecial _ | .invokestatic _ => true
  | _ => false
theorem std_tag : ∀ (j : Nat) (o : AOp), a_std[j]?.map (·.2.2.2) = some o → o.1 = 20 ∨ o.1 = 1 := by
  intro j o ho
  rcases (show j = 0 ∨ j = 1 ∨ j = 2 ∨ j = 3 ∨ j = 4 ∨ j = 5 ∨ j = 6 ∨ 7 ≤ j by omega) with h | h | h | h | h | h | h | h
  all_goals first
    | (subst h; cases ho; decide)
    | (rw [List.getElem?_eq_none (by show 7 ≤ j; exact h)] at ho; cases ho)
theorem chk_ctl {m pc len : Nat} {i : Instr} {o : AOp} (h : a_chk m pc len i o = true) (ho : 100 ≤ o.1) : i_ctl i = true := by
  cases i
  case getfield x =>
    exfalso
    simp only [a_chk] at h
    split at h
    · rename_i q hf
      simp only [a_ok1, Bool.and_eq_true, beq_iff_eq, decide_eq_true_eq] at h
      rw [h.2] at ho
      cases hc : c_R q.1 q.2.1 <;> rw [hc] at ho <;> simp [o_I, o_L, o_il, o_ll, o_al, o_is, o_lst, o_as, o_iinc, o_bin, o_binL, o_un, o_dup, o_pop, o_dup2, o_getI, o_getR, o_putI, o_putZ, o_putR, o_cR, o_iald, o_bald, o_aald, o_iast, o_bast, o_aast, o_alen, o_new, o_newa, o_anew, o_mna, o_obj, o_cp] at ho
    · cases h
  case putfield x =>
    exfalso
    simp only [a_chk] at h
    split at h
    · rename_i q hf
      simp only [a_ok1, Bool.and_eq_true, beq_iff_eq, decide_eq_true_eq] at h
      rw [h.1.1.2] at ho
      cases hc : c_R q.1 q.2.1 <;> rw [hc] at ho <;> simp only [cond_true, cond_false] at ho
      · split at ho <;> simp [o_I, o_L, o_il, o_ll, o_al, o_is, o_lst, o_as, o_iinc, o_bin, o_binL, o_un, o_dup, o_pop, o_dup2, o_getI, o_getR, o_putI, o_putZ, o_putR, o_cR, o_iald, o_bald, o_aald, o_iast, o_bast, o_aast, o_alen, o_new, o_newa, o_anew, o_mna, o_obj, o_cp] at ho
      · simp [o_I, o_L, o_il, o_ll, o_al, o_is, o_lst, o_as, o_iinc, o_bin, o_binL, o_un, o_dup, o_pop, o_dup2, o_getI, o_getR, o_putI, o_putZ, o_putR, o_cR, o_iald, o_bald, o_aald, o_iast, o_bast, o_aast, o_alen, o_new, o_newa, o_anew, o_mna, o_obj, o_cp] at ho
    · cases h
  case getstatic x =>
    exfalso
    simp only [a_chk] at h
    split at h
    · simp only [Bool.and_eq_true, beq_iff_eq, decide_eq_true_eq] at h
      rcases std_tag _ _ h.2 with h | h <;> omega
    · cases h
  case newarray t =>
    exfalso
    cases t <;> simp only [a_chk, a_ok1, Bool.and_eq_true, beq_iff_eq, decide_eq_true_eq] at h
    all_goals first
      | (cases h; done)
      | (rw [h.2] at ho; simp [o_I, o_L, o_il, o_ll, o_al, o_is, o_lst, o_as, o_iinc, o_bin, o_binL, o_un, o_dup, o_pop, o_dup2, o_getI, o_getR, o_putI, o_putZ, o_putR, o_cR, o_iald, o_bald, o_aald, o_iast, o_bast, o_aast, o_alen, o_new, o_newa, o_anew, o_mna, o_obj, o_cp] at ho; done)
  case multianewarray x d =>
    exfalso
    by_cases hd : d = 2
    · subst hd
      simp only [a_chk] at h
      split at h
      · simp only [a_ok1, Bool.and_eq_true, beq_iff_eq, decide_eq_true_eq] at h
        rw [h.1.2] at ho
        simp [o_I, o_L, o_il, o_ll, o_al, o_is, o_lst, o_as, o_iinc, o_bin, o_binL, o_un, o_dup, o_pop, o_dup2, o_getI, o_getR, o_putI, o_putZ, o_putR, o_cR, o_iald, o_bald, o_aald, o_iast, o_bast, o_aast, o_alen, o_new, o_newa, o_anew, o_mna, o_obj, o_cp] at ho
      · cases h
    · unfold a_chk at h
      split at h <;> first | (rename_i h9; cases h9; done) | (rename_i h9; cases h9; exact hd rfl) | cases h
  all_goals first
    | rfl
    | (exfalso; change false = true at h; cases h; done)
    | (exfalso
       simp only [a_chk, a_ok1, Bool.and_eq_true, beq_iff_eq, decide_eq_true_eq] at h
       rw [h.2] at ho
       simp [o_I, o_L, o_il, o_ll, o_al, o_is, o_lst, o_as, o_iinc, o_bin, o_binL, o_un, o_dup, o_pop, o_dup2, o_getI, o_getR, o_putI, o_putZ, o_putR, o_cR, o_iald, o_bald, o_aald, o_iast, o_bast, o_aast, o_alen, o_new, o_newa, o_anew, o_mna, o_obj, o_cp] at ho
       done)
    | (exfalso
       simp only [a_chk] at h
       split at h
       · simp only [a_ok1, Bool.and_eq_true, beq_iff_eq, decide_eq_true_eq] at h
         first
           | (rw [h.2] at ho; simp [o_I, o_L, o_il, o_ll, o_al, o_is, o_lst, o_as, o_iinc, o_bin, o_binL, o_un, o_dup, o_pop, o_dup2, o_getI, o_getR, o_putI, o_putZ, o_putR, o_cR, o_iald, o_bald, o_aald, o_iast, o_bast, o_aast, o_alen, o_new, o_newa, o_anew, o_mna, o_obj, o_cp] at ho; done)
           | (rw [h.1.2] at ho; simp [o_I, o_L, o_il, o_ll, o_al, o_is, o_lst, o_as, o_iinc, o_bin, o_binL, o_un, o_dup, o_pop, o_dup2, o_getI, o_getR, o_putI, o_putZ, o_putR, o_cR, o_iald, o_bald, o_aald, o_iast, o_bast, o_aast, o_alen, o_new, o_newa, o_anew, o_mna, o_obj, o_cp] at ho; done)
       · cases h)
