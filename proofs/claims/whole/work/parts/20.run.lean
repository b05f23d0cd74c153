/-! The whole run, over the machine -/
section SR
variable {l : Launch} {G : SG}
theorem kc_cnd {k : Jvm.ClassFile.Cond} {st : List Value} {b : Bool} {st' : List Value} (h : a_cnd (a_kc k) st = some (b, st')) : ∃ x, st = .int x :: st' ∧ a_cmp (a_kc k) x 0 = some b := by
  have hk : a_kc k < 6 := by cases k <;> decide
  unfold a_cnd at h
  rw [if_pos hk] at h
  split at h
  · split at h
    · cases h
      exact ⟨_, rfl, by assumption⟩
    · cases h
  · cases h
theorem kc_cnd2 {k : Jvm.ClassFile.Cond} {st : List Value} {b : Bool} {st' : List Value} (h : a_cnd (a_kc k + 6) st = some (b, st')) : ∃ x y, st = .int y :: .int x :: st' ∧ a_cmp (a_kc k) x y = some b := by
  have hk : a_kc k < 6 := by cases k <;> decide
  unfold a_cnd at h
  rw [if_neg (by omega), if_pos (by omega), Nat.add_sub_cancel] at h
  split at h
  · split at h
    · cases h
      exact ⟨_, _, rfl, by assumption⟩
    · cases h
  · cases h
theorem nn_cnd {st : List Value} {b : Bool} {st' : List Value} (h : a_cnd 12 st = some (b, st')) : (∃ x : Nat, 43 ≤ x ∧ st = .ref x :: st' ∧ b = true) ∨ (st = .null :: st' ∧ b = false) := by
  unfold a_cnd at h
  rw [if_neg (by decide), if_neg (by decide), if_pos rfl] at h
  split at h
  · split at h
    · cases h
      exact Or.inl ⟨_, by assumption, rfl, rfl⟩
    · cases h
  · cases h
    exact Or.inr ⟨rfl, rfl⟩
  · cases h
theorem aa_cnd {k : Nat} (hk : k = 13 ∨ k = 14) {st : List Value} {b : Bool} {st' : List Value} (h : a_cnd k st = some (b, st')) : ∃ x y : Nat, st = .ref y :: .ref x :: st' ∧ ((43 ≤ x ∧ 43 ≤ y) ∨ ((4 ≤ x ∧ x < 12) ∧ (4 ≤ y ∧ y < 12))) ∧ b = (if k = 13 then decide (x = y) else decide (¬ x = y)) := by
  unfold a_cnd at h
  rw [if_neg (by omega), if_neg (by omega), if_neg (by omega)] at h
  split at h
  · split at h
    · cases h
      exact ⟨_, _, rfl, by assumption, rfl⟩
    · cases h
  · cases h
theorem ok_T {m pc L : Nat} {off : Int} (h : a_okT m pc off L = true) : (pc : Int) + off = (a_pc m L : Int) := by
  unfold a_okT at h
  exact of_decide_eq_true h
/-- two references are one iff their ids are -/
theorem id_eq {s : State} (K : KO G s) {x y : Nat} (h : (43 ≤ x ∧ 43 ≤ y) ∨ ((4 ≤ x ∧ x < 12) ∧ (4 ≤ y ∧ y < 12))) : ∃ rx ry : Option Nat, g_v G x = va_rf rx ∧ g_v G y = va_rf ry ∧ (rx = ry ↔ x = y) := by
  rcases h with ⟨h1, h2⟩ | ⟨⟨h1, h2⟩, h3, h4⟩
  · refine ⟨some (g_ad G x), some (g_ad G y), g_v_hi h1, g_v_hi h2, ?_⟩
    constructor
    · intro h
      exact g_ad_inj h1 h2 (Option.some.inj h)
    · rintro rfl
      rfl
  · refine ⟨G.2.1 x, G.2.1 y, by unfold g_v; rw [if_pos (by omega)], by unfold g_v; rw [if_pos (by omega)], ?_⟩
    constructor
    · exact K.2.2.2.2.2.2.2.1 x y h1 h2 h3 h4
    · rintro rfl
      rfl
theorem ex_call {E : AEn} {f m : Nat} {o : AOp} {is : List AOp} {ls st : List Value} {hi : AHi} {hr : AHr} {n : Nat} (h : o.1 = 103) : a_ex E (f + 1) m (o :: is) ls st hi hr n =
    if a_ar o.2.1 ≤ st.length ∧ (st.drop (a_ar o.2.1)).length ≤ 4 ∧ a_cok o.2.1 n (st.take (a_ar o.2.1)).reverse = true then
      match a_ex E f o.2.1 (a_bl o.2.1 0) (a_pad (a_ml o.2.1) (a_args (st.take (a_ar o.2.1)).reverse)) [] hi hr n with
      | some r => a_ex E f m is ls (r.1.toList ++ st.drop (a_ar o.2.1)) r.2.1 r.2.2.1 r.2.2.2
      | none => none
    else none := by
  obtain ⟨t, a, b, v, ts⟩ := o
  dsimp only at h
  subst h
  rfl
set_option maxHeartbeats 4000000 in
theorem snd_all (WA : WAll) : ∀ f, Snd l G f := by
  intro f
  induction f with
  | zero => intro m is pc ls st hi hr n r hmat hE; cases hE
  | succ f ih =>
    intro m is pc ls st hi hr n r hmat hE p e R s mid args below meth c Q H locs LS nE C K hRl hL hloc hnE hcells hslots hfin
    have hm := C.2.2.2.2.2.2.2.2.2
    have hx := C.1
    have hb := C.2.1
    cases is with
    | nil => cases hE
    | cons o is =>
    have blk : ∀ (L : Nat) (st' : List Value), a_ex (g_E G) f m (a_bl m L) ls st' hi hr n = some r → W p l e R s mid args below meth c H locs (n - nE) (s_sl G n - s_sl G nE) Q (F0 mid (a_pc m L) LS (st'.map (g_e G))) := fun L st' h =>
      ih m _ _ ls st' hi hr n r (WA.2.2.2.2.2.2.2.2.2.2.1 m L hm) h p e R s mid args below meth c Q H locs LS nE C K hRl hL hloc hnE hcells hslots hfin
    unfold a_mat at hmat
    by_cases h105 : o.1 = 105
    · rw [if_pos h105] at hmat
      simp only [Bool.and_eq_true, decide_eq_true_eq] at hmat
      rw [hmat.2]
      refine blk _ _ ?_
      unfold a_ex at hE
      rw [h105] at hE
      exact hE
    · rw [if_neg h105] at hmat
      by_cases h99 : o.1 = 99
      · unfold a_ex at hE
        rw [h99] at hE
        try dsimp only at hE
        unfold a_sem at hE
        rw [h99] at hE
        cases hE
      · rw [if_neg h99] at hmat
        split at hmat
        · rename_i i len hdec
          simp only [Bool.and_eq_true] at hmat
          obtain ⟨hchk, hmat⟩ := hmat
          have nxt : ∀ (st' : List Value), a_ex (g_E G) f m is ls st' hi hr n = some r → W p l e R s mid args below meth c H locs (n - nE) (s_sl G n - s_sl G nE) Q (F0 mid (pc + len) LS (st'.map (g_e G))) := fun st' h =>
            ih m _ _ ls st' hi hr n r hmat h p e R s mid args below meth c Q H locs LS nE C K hRl hL hloc hnE hcells hslots hfin
          by_cases hc : 100 ≤ o.1 ∧ o.1 ≤ 104
          · have hctl := chk_ctl hchk hc.1
            by_cases h103 : o.1 = 103
            · rw [ex_call h103] at hE
              split at hE
              · rename_i hcond
                obtain ⟨h1, h2, h3⟩ := hcond
                split at hE
                · rename_i r1 hE1
                  have hn1 := ex_mono _ _ _ _ _ _ _ _ _ hE1
                  have hn2 := ex_mono _ _ _ _ _ _ _ _ _ hE
                  have hm2 := s_sl_mono G hn2
                  refine st_call ih WA C K hRl hL hloc hnE hdec hchk h103 h1 h2 h3 hE1 (by omega) (by omega) (fun H' locs' hR' hl' => ?_)
                  exact ih m is (pc + len) ls _ _ _ _ r hmat hE p e R s mid args below meth c Q H' locs' LS nE C K hR' hL hl' (by omega) hcells hslots hfin
                · cases hE
              · cases hE
            · cases i
              all_goals first
                | (change false = true at hctl; cases hctl; done)
                | skip
              case goto off =>
                simp only [a_chk, a_ok1, Bool.and_eq_true, beq_iff_eq, decide_eq_true_eq] at hchk
                obtain ⟨⟨rfl, ho⟩, hT⟩ := hchk
                refine lv_goto hx hb hdec (ok_T hT) (blk _ _ ?_)
                rw [ho] at hE
                exact hE
              case ifCond k off =>
                simp only [a_chk, a_ok1, Bool.and_eq_true, beq_iff_eq, decide_eq_true_eq] at hchk
                obtain ⟨⟨rfl, ho⟩, hT⟩ := hchk
                have hT := ok_T hT
                generalize o.2.1 = L at *
                subst ho
                change (match a_cnd (a_kc k) st with | some (b, st') => a_ex (g_E G) f m (bif b then a_bl m L else is) ls st' hi hr n | none => none) = some r at hE
                split at hE
                · rename_i b st' hcd
                  obtain ⟨x, rfl, hcmp⟩ := kc_cnd hcd
                  cases k <;> cases hcmp
                  · exact lv_if_eq hx hb hdec hT (fun h => blk _ _ (by rw [decide_eq_true h] at hE; exact hE)) (fun h => nxt _ (by rw [decide_eq_false h] at hE; exact hE))
                  · exact lv_if_ne hx hb hdec hT (fun h => blk _ _ (by rw [decide_eq_true h] at hE; exact hE)) (fun h => nxt _ (by rw [decide_eq_false (fun q => q h)] at hE; exact hE))
                  · exact lv_if_lt hx hb hdec hT (fun h => blk _ _ (by rw [decide_eq_true h] at hE; exact hE)) (fun h => nxt _ (by rw [decide_eq_false h] at hE; exact hE))
                  · exact lv_if_ge hx hb hdec hT (fun h => blk _ _ (by rw [decide_eq_true h] at hE; exact hE)) (fun h => nxt _ (by rw [decide_eq_false h] at hE; exact hE))
                  · exact lv_if_gt hx hb hdec hT (fun h => blk _ _ (by rw [decide_eq_true h] at hE; exact hE)) (fun h => nxt _ (by rw [decide_eq_false h] at hE; exact hE))
                  · exact lv_if_le hx hb hdec hT (fun h => blk _ _ (by rw [decide_eq_true h] at hE; exact hE)) (fun h => nxt _ (by rw [decide_eq_false h] at hE; exact hE))
                · cases hE
              case if_icmp k off =>
                simp only [a_chk, a_ok1, Bool.and_eq_true, beq_iff_eq, decide_eq_true_eq] at hchk
                obtain ⟨⟨rfl, ho⟩, hT⟩ := hchk
                have hT := ok_T hT
                generalize o.2.1 = L at *
                subst ho
                change (match a_cnd (a_kc k + 6) st with | some (b, st') => a_ex (g_E G) f m (bif b then a_bl m L else is) ls st' hi hr n | none => none) = some r at hE
                split at hE
                · rename_i b st' hcd
                  obtain ⟨x, y, rfl, hcmp⟩ := kc_cnd2 hcd
                  cases k <;> cases hcmp
                  · exact lv_icmp_eq hx hb hdec hT (fun h => blk _ _ (by rw [decide_eq_true h] at hE; exact hE)) (fun h => nxt _ (by rw [decide_eq_false h] at hE; exact hE))
                  · exact lv_icmp_ne hx hb hdec hT (fun h => blk _ _ (by rw [decide_eq_true h] at hE; exact hE)) (fun h => nxt _ (by rw [decide_eq_false (fun q => q h)] at hE; exact hE))
                  · exact lv_icmp_lt hx hb hdec hT (fun h => blk _ _ (by rw [decide_eq_true h] at hE; exact hE)) (fun h => nxt _ (by rw [decide_eq_false h] at hE; exact hE))
                  · exact lv_icmp_ge hx hb hdec hT (fun h => blk _ _ (by rw [decide_eq_true h] at hE; exact hE)) (fun h => nxt _ (by rw [decide_eq_false h] at hE; exact hE))
                  · exact lv_icmp_gt hx hb hdec hT (fun h => blk _ _ (by rw [decide_eq_true h] at hE; exact hE)) (fun h => nxt _ (by rw [decide_eq_false h] at hE; exact hE))
                  · exact lv_icmp_le hx hb hdec hT (fun h => blk _ _ (by rw [decide_eq_true h] at hE; exact hE)) (fun h => nxt _ (by rw [decide_eq_false h] at hE; exact hE))
                · cases hE
              case ifnonnull off =>
                simp only [a_chk, a_ok1, Bool.and_eq_true, beq_iff_eq, decide_eq_true_eq] at hchk
                obtain ⟨⟨rfl, ho⟩, hT⟩ := hchk
                have hT := ok_T hT
                generalize o.2.1 = L at *
                subst ho
                change (match a_cnd 12 st with | some (b, st') => a_ex (g_E G) f m (bif b then a_bl m L else is) ls st' hi hr n | none => none) = some r at hE
                split at hE
                · rename_i b st' hcd
                  rcases nn_cnd hcd with ⟨x, hx43, rfl, rfl⟩ | ⟨rfl, rfl⟩
                  · rw [List.map_cons, show g_e G (.ref x) = .ref (g_ad G x) from g_v_hi hx43]
                    exact lv_ifnonnull hx hb hdec hT (blk _ _ hE)
                  · exact lv_ifnonnullN hx hb hdec (nxt _ hE)
                · cases hE
              case if_acmp k off =>
                cases k
                · simp only [a_chk, a_ok1, Bool.and_eq_true, beq_iff_eq, decide_eq_true_eq] at hchk
                  obtain ⟨⟨rfl, ho⟩, hT⟩ := hchk
                  have hT := ok_T hT
                  generalize o.2.1 = L at *
                  subst ho
                  change (match a_cnd 13 st with | some (b, st') => a_ex (g_E G) f m (bif b then a_bl m L else is) ls st' hi hr n | none => none) = some r at hE
                  split at hE
                  · rename_i b st' hcd
                    obtain ⟨x, y, rfl, hxy, rfl⟩ := aa_cnd (Or.inl rfl) hcd
                    obtain ⟨rx, ry, e1, e2, e3⟩ := id_eq K hxy
                    rw [if_pos rfl] at hE
                    rw [List.map_cons, List.map_cons, show g_e G (.ref x) = va_rf rx from e1, show g_e G (.ref y) = va_rf ry from e2]
                    exact lv_acmp_eq hx hb hdec hT (fun h => blk _ _ (by rw [decide_eq_true (e3.mp h)] at hE; exact hE)) (fun h => nxt _ (by rw [decide_eq_false (fun q => h (e3.mpr q))] at hE; exact hE))
                  · cases hE
                · simp only [a_chk, a_ok1, Bool.and_eq_true, beq_iff_eq, decide_eq_true_eq] at hchk
                  obtain ⟨⟨rfl, ho⟩, hT⟩ := hchk
                  have hT := ok_T hT
                  generalize o.2.1 = L at *
                  subst ho
                  change (match a_cnd 14 st with | some (b, st') => a_ex (g_E G) f m (bif b then a_bl m L else is) ls st' hi hr n | none => none) = some r at hE
                  split at hE
                  · rename_i b st' hcd
                    obtain ⟨x, y, rfl, hxy, rfl⟩ := aa_cnd (Or.inr rfl) hcd
                    obtain ⟨rx, ry, e1, e2, e3⟩ := id_eq K hxy
                    rw [if_neg (by decide)] at hE
                    rw [List.map_cons, List.map_cons, show g_e G (.ref x) = va_rf rx from e1, show g_e G (.ref y) = va_rf ry from e2]
                    exact lv_acmp_ne hx hb hdec hT (fun h => blk _ _ (by rw [decide_eq_true (show ¬ x = y from fun q => h (e3.mpr q))] at hE; exact hE)) (fun h => nxt _ (by rw [decide_eq_false (show ¬ ¬ x = y from fun q => q (e3.mp h))] at hE; exact hE))
                  · cases hE
              case tableswitch d lo hi' offs =>
                simp only [a_chk, Bool.and_eq_true, decide_eq_true_eq, List.all_eq_true, List.mem_range] at hchk
                obtain ⟨⟨⟨⟨ho, hTd⟩, hlen⟩, hhi⟩, hall⟩ := hchk
                have hTd := ok_T hTd
                generalize o.2.1 = D at *
                generalize o.2.2.2.2 = ts at *
                subst ho
                change (match (generalizing := false) st with | .int x :: st' => a_ex (g_E G) f m (a_bl m (a_sw lo D ts x)) ls st' hi hr n | _ => none) = some r at hE
                split at hE
                · rename_i x st'
                  unfold a_sw at hE
                  by_cases h1 : x.toInt < lo
                  · rw [if_pos h1] at hE
                    exact lv_tableOut hx hb hdec (Or.inl h1) hTd (blk _ _ hE)
                  · rw [if_neg h1] at hE
                    by_cases h2 : hi' < x.toInt
                    · have hnone : ts.getD (x.toInt - lo).toNat D = D := by
                        rw [List.getD_eq_getElem?_getD, List.getElem?_eq_none (by omega)]
                        rfl
                      rw [hnone] at hE
                      exact lv_tableOut hx hb hdec (Or.inr h2) hTd (blk _ _ hE)
                    · have hj : (x.toInt - lo).toNat < offs.size := by omega
                      have hj2 := hall _ hj
                      split at hj2
                      · rename_i off t ho1 ho2
                        rw [List.getD_eq_getElem?_getD, ho2] at hE
                        exact lv_tableIn hx hb hdec h1 h2 ho1 (ok_T hj2) (blk _ _ hE)
                      · cases hj2
                · cases hE
              case ireturn =>
                simp only [a_chk, a_ok1, Bool.and_eq_true, beq_iff_eq, decide_eq_true_eq] at hchk
                obtain ⟨rfl, rfl⟩ := hchk
                change (match a_rv (a_rt m) 1 st with | some v => some (v, hi, hr, n) | none => none) = some r at hE
                split at hE
                · cases hE
                  exact hfin H locs LS pc 1 st (by assumption) hdec (by decide) hRl hloc
                · cases hE
              case lreturn =>
                simp only [a_chk, a_ok1, Bool.and_eq_true, beq_iff_eq, decide_eq_true_eq] at hchk
                obtain ⟨rfl, rfl⟩ := hchk
                change (match a_rv (a_rt m) 2 st with | some v => some (v, hi, hr, n) | none => none) = some r at hE
                split at hE
                · cases hE
                  exact hfin H locs LS pc 2 st (by assumption) hdec (by decide) hRl hloc
                · cases hE
              case areturn =>
                simp only [a_chk, a_ok1, Bool.and_eq_true, beq_iff_eq, decide_eq_true_eq] at hchk
                obtain ⟨rfl, rfl⟩ := hchk
                change (match a_rv (a_rt m) 3 st with | some v => some (v, hi, hr, n) | none => none) = some r at hE
                split at hE
                · cases hE
                  exact hfin H locs LS pc 3 st (by assumption) hdec (by decide) hRl hloc
                · cases hE
              case return_ =>
                simp only [a_chk, a_ok1, Bool.and_eq_true, beq_iff_eq, decide_eq_true_eq] at hchk
                obtain ⟨rfl, rfl⟩ := hchk
                change (match a_rv (a_rt m) 0 st with | some v => some (v, hi, hr, n) | none => none) = some r at hE
                split at hE
                · cases hE
                  exact hfin H locs LS pc 0 st (by assumption) hdec (by decide) hRl hloc
                · cases hE
              case invokevirtual x =>
                exfalso
                simp only [a_chk] at hchk
                split at hchk
                · simp only [a_ok1, Bool.and_eq_true, beq_iff_eq, decide_eq_true_eq] at hchk
                  rw [hchk.1.1.1.1.2] at h103
                  exact h103 rfl
                · cases hchk
              case invokespecial x =>
                exfalso
                simp only [a_chk] at hchk
                split at hchk
                · simp only [a_ok1, Bool.and_eq_true, beq_iff_eq, decide_eq_true_eq, Bool.or_eq_true] at hchk
                  rcases hchk with ⟨⟨⟨⟨-, h9⟩, -⟩, -⟩, -⟩ | ⟨⟨⟨⟨⟨⟨-, h9⟩, -⟩, -⟩, -⟩, -⟩, -⟩
                  · rw [h9] at hc
                    exact absurd hc.1 (by decide)
                  · rw [h9] at h103
                    exact h103 rfl
                · cases hchk
              case invokestatic x =>
                exfalso
                simp only [a_chk] at hchk
                split at hchk
                · simp only [a_ok1, Bool.and_eq_true, beq_iff_eq, decide_eq_true_eq, Bool.or_eq_true] at hchk
                  rcases hchk with ⟨⟨⟨⟨-, h9⟩, -⟩, -⟩, -⟩ | ⟨⟨⟨⟨⟨-, h9⟩, -⟩, -⟩, -⟩, -⟩
                  · rw [h9] at hc
                    exact absurd hc.1 (by decide)
                  · rw [h9] at h103
                    exact h103 rfl
                · cases hchk
          · have hE2 : ∃ S, a_sem (g_E G) o ls st hi hr n = some S ∧ a_ex (g_E G) f m is S.1 S.2.1 S.2.2.1 S.2.2.2.1 S.2.2.2.2 = some r := by
              unfold a_ex at hE
              split at hE
              all_goals first
                | (exfalso; omega)
                | skip
              split at hE
              · exact ⟨_, by assumption, hE⟩
              · cases hE
            obtain ⟨S, hsem, hE2⟩ := hE2
            have hn1 := sem_mono hsem
            have hn2 := ex_mono _ _ _ _ _ _ _ _ _ hE2
            have hm2 := s_sl_mono G hn2
            refine st_sem C K WA hRl hL hloc hdec hchk hsem hnE (by omega) (by omega) ?_
            intro H' locs' LS' hR' hl' hL'
            exact ih m is (pc + len) S.1 S.2.1 S.2.2.1 S.2.2.2.1 S.2.2.2.2 r hmat hE2 p e R s mid args below meth c Q H' locs' LS' nE C K hR' hL' hl' (by omega) hcells hslots hfin
        · cases hmat
end SR
